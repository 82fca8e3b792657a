/** The edges that the document names of statutes, values in texts and MAY: promises 12, 13 and 15. */
public final class StatuteEdgeTest {
    private static final int NONE = GuildHouse.NONE;
    private static final int MIN = Integer.MIN_VALUE;
    private static final int MAX = Integer.MAX_VALUE;
    private static final Check check = new Check("StatuteEdgeTest");

    public static void main(String[] args) {
        mostStatutes();
        textIsAStatute();
        statuteOfAFault();
        statuteFromADay();
        toldUpToQ();
        fromUpToD();
        fromTheGreatestDay();
        toldLast();
        forceOfBounds();
        forceOfNone();
        withoutOne();
        comparisons();
        joints();
        oneAfterTheOther();
        years();
        roadLettersFees();
        mark();
        childOfAMaster();
        mayByThis();
        servedDayUpToD();
        inForceOnTheFirst();
        valuesOfD();
        mayNot();
        mayAnswers();
        mayRefused();
        check.finish();
    }

    private static GuildHouse withStatutes(int statutes) {
        GuildHouse house = Check.houseOf(3, 1);
        for (int i = 0; i < statutes; i++) {
            Check.statute(house, "d>" + i, 100 + i);
        }
        return house;
    }

    private static void mostStatutes() {
        check.says("Terms 2", "STATUTES (30 at most)");
        check.same("the 30th", Check.statute(withStatutes(29), "k=1", 0), 29);
        check.same("thirty", withStatutes(30).count(4), 30);
        check.same("the 30th is in force", withStatutes(30).force(129, 0), 29);
        check.isNone("the 31st", () -> Check.withText(withStatutes(30), "k=1"), h -> h.statute(0));

        check.says("Promise 12", "there are 30");
        check.same("the 30th, from the last day", Check.statute(withStatutes(29), "k=1", 20000), 29);
        check.isNone("the 31st, from the last day", () -> Check.withText(withStatutes(30), "k=1"), h -> h.statute(20000));
        check.same("the 31st leaves the text", Check.withText(withStatutes(30), "k=1").count(6), 3);
    }

    private static void textIsAStatute() {
        check.says("Promise 12", "The TEXT (empty then) is a STATUTE");
        GuildHouse house = Check.withText(Check.houseOf(1), "k=0");
        check.same("the first", house.statute(5), 0);
        check.same("no bytes", house.count(6), 0);
        check.same("fault of nothing", house.fault(), 0);
        check.same("there is one", house.count(4), 1);
        check.same("the next", Check.statute(house, "k=1", 6), 1);
        check.same("the first keeps its text", house.may(0, 5, 0), 1);
        check.same("the next has its own", house.may(0, 6, 0), 0);
        Check.write(house, "k=1|k=0");
        house.end(3);
        check.same("of a text cut", house.statute(7), 2);
        check.same("holds to the cut text", house.may(0, 7, 0), 0);
        String longest = "k=1|".repeat(29) + "k=00";
        check.same("of 120 bytes", Check.write(house, longest), 120);
        check.same("is a statute", house.statute(8), 3);
        check.same("holds by its last bytes", house.may(0, 8, 0), 1);
        Check.statute(house, "k=1", 9);
        check.same("the longest stays whole", house.may(0, 8, 0), 1);
        check.same("the longest that does not hold", Check.write(house, "k=1|".repeat(29) + "k=01"), 120);
        house.statute(10);
        Check.statute(house, "(k=0)", 11);
        check.same("the next text is no part of it", house.may(0, 10, 0), 0);
        check.same("nor is it a part of the next", house.may(0, 11, 0), 1);
        GuildHouse full = withStatutes(29);
        Check.write(full, "d>0|".repeat(29) + "d<01");
        check.same("the 30th of 120 bytes", full.statute(0), 29);
        check.same("holds", full.may(1, 0, 0), 1);
    }

    private static void statuteOfAFault() {
        check.says("Promise 12", "NONE: FAULT");
        check.same("no fault", Check.statute(withStatutes(2), "d<1", 0), 2);
        for (String text : new String[] {"", "d<", "d<1&", "(d<1", "d<123456", "d<1)", "x", "(((((((((d<1)))))))))"}) {
            check.isNone("statute of '" + text + "'", () -> Check.withText(withStatutes(2), text), h -> h.statute(0));
        }
    }

    private static void statuteFromADay() {
        check.says("Promise 12", "from a DAY on (0 .. 20,000): its number");
        check.same("from 0", Check.statute(withStatutes(2), "d<1", 0), 2);
        check.same("from 20,000", Check.statute(withStatutes(2), "d<1", 20000), 2);
        check.same("from before NOW", Check.statute(Check.after(50, withStatutes(2)), "d<1", 49), 2);

        check.says("Promise 12", ", DAY,");
        for (int from : new int[] {-1, 20001, MIN, MAX}) {
            check.isNone("from " + from, () -> Check.withText(withStatutes(2), "d<1"), h -> h.statute(from));
        }
    }

    private static void toldUpToQ() {
        check.says("Terms 2", "of those told up to q");
        GuildHouse house = Check.after(10, new GuildHouse());
        Check.statute(house, "k=0", 5);
        house.days(10);
        check.same("as known on 9", house.force(20, 9), NONE);
        check.same("as known on 10", house.force(20, 10), 0);
        Check.statute(house, "k=0", 6);
        house.days(5);
        check.same("as known on 19", house.force(20, 19), 0);
        check.same("as known on 20", house.force(20, 20), 1);
        check.same("as known on 25", house.force(20, 25), 1);
        check.same("told on day 0", withStatutes(1).force(100, 0), 0);
    }

    private static void fromUpToD() {
        check.says("Terms 2", "from up to d");
        GuildHouse house = withStatutes(1);
        check.same("on 99", house.force(99, 0), NONE);
        check.same("on 100", house.force(100, 0), 0);
        check.same("on 101", house.force(101, 0), 0);
        Check.statute(house, "k=0", 20000);
        check.same("on 19,999", house.force(19999, 0), 0);
        check.same("on 20,000", house.force(20000, 0), 1);
        Check.statute(house, "k=0", 0);
        check.same("on 0", house.force(0, 0), 2);
        check.same("on 99 then", house.force(99, 0), 2);
        check.same("on 100 still", house.force(100, 0), 0);
    }

    private static void fromTheGreatestDay() {
        check.says("Terms 2", "the one from the greatest DAY");
        GuildHouse house = new GuildHouse();
        int[] from = {50, 70, 60, 69, 71};
        for (int each : from) {
            Check.statute(house, "k=0", each);
        }
        int[][] due = {{49, NONE}, {50, 0}, {59, 0}, {60, 2}, {68, 2}, {69, 3}, {70, 1}, {71, 4}, {20000, 4}};
        for (int[] each : due) {
            check.same("on " + each[0], house.force(each[0], 0), each[1]);
        }
    }

    private static void toldLast() {
        check.says("Terms 2", "(of several the one told last)");
        GuildHouse house = new GuildHouse();
        Check.statute(house, "k=0", 50);
        Check.statute(house, "k=0", 50);
        check.same("of two on one day", house.force(50, 0), 1);
        house.days(1);
        Check.statute(house, "k=0", 50);
        check.same("of three", house.force(50, 1), 2);
        check.same("of three, as known the day before", house.force(50, 0), 1);
        Check.statute(house, "k=0", 49);
        check.same("told last, but from an earlier day", house.force(50, 1), 2);
        check.same("on that earlier day", house.force(49, 1), 3);
    }

    private static void forceOfBounds() {
        check.says("Promise 13", "as known in q (q 0 .. NOW, d 0 .. 20,000)");
        GuildHouse house = new GuildHouse();
        Check.statute(house, "k=0", 0);
        house.days(30);
        check.same("d 0, q 0", house.force(0, 0), 0);
        check.same("d 20,000, q 30", house.force(20000, 30), 0);
        check.same("d behind q", house.force(31, 30), 0);

        check.says("Promise 13", ", no such");
        for (int wrong : new int[] {-1, MIN, MAX}) {
            check.isNone("d " + wrong, StatuteEdgeTest::inForce, h -> h.force(wrong, 30));
            check.isNone("q " + wrong, StatuteEdgeTest::inForce, h -> h.force(30, wrong));
        }
        check.isNone("d 20,001", StatuteEdgeTest::inForce, h -> h.force(20001, 30));
        check.isNone("q 31", StatuteEdgeTest::inForce, h -> h.force(30, 31));
    }

    private static GuildHouse inForce() {
        GuildHouse house = Check.houseOf(2, 1);
        Check.statute(house, "k=0", 0);
        return Check.after(30, house);
    }

    private static void forceOfNone() {
        check.says("Promise 13", "NONE: none");
        check.isNone("of no statutes", () -> Check.houseOf(2, 1), h -> h.force(0, 0));
        check.isNone("before the first", () -> withStatutes(2), h -> h.force(99, 0));
        check.isNone("before it was told", () -> Check.withText(Check.after(1, new GuildHouse()), "k=0"),
                h -> h.force(20000, 0));
        check.same("the first", withStatutes(2).force(100, 0), 0);
    }

    private static void withoutOne() {
        check.says("Terms 2", "without one all may come");
        check.same("no statutes", Check.houseOf(3, 1).may(2, 0, 0), 1);
        GuildHouse house = Check.after(10, Check.houseOf(3, 1));
        Check.statute(house, "k=1", 50);
        check.same("on 49", house.may(2, 49, 10), 1);
        check.same("on 50", house.may(2, 50, 10), 0);
        check.same("on 50 as known on 9", house.may(2, 50, 9), 1);
    }

    /** Whether a text holds for a person with values told here: MAY is 1 or 0, as nothing older holds. */
    private static void holds(GuildHouse house, int person, String text, boolean due) {
        int now = house.count(0);
        Check.statute(house, "k>9", 0);
        check.same("statute '" + text + "'", Check.statute(house, text, now), house.count(4) - 1);
        check.same("'" + text + "'", house.may(person, now, now), due ? 1 : 0);
    }

    private static GuildHouse lettered(int letters) {
        GuildHouse house = Check.after(1, Check.houseOf(1));
        house.give(0, letters, 0);
        return house;
    }

    private static void comparisons() {
        check.says("Terms 2", "or a word, one of < > =, a number");
        for (int number = 4; number <= 6; number++) {
            holds(lettered(5), 0, "l<" + number, 5 < number);
            holds(lettered(5), 0, "l>" + number, 5 > number);
            holds(lettered(5), 0, "l=" + number, 5 == number);
        }
        holds(lettered(0), 0, "l=0", true);
        holds(lettered(0), 0, "l>0", false);
        holds(lettered(0), 0, "l<0", false);
        holds(lettered(0), 0, "l<1", true);
        holds(lettered(7), 0, "l=00007", true);
        holds(lettered(7), 0, "l = 7 ", true);
        holds(lettered(7), 0, "l<99999", true);
        holds(lettered(7), 0, "l=70", false);
    }

    /** & binds units to a part before | joins the parts; a bracket is a unit of its own. */
    private static void joints() {
        check.says("Terms 2", "a part: units with & between");
        for (int bits = 0; bits < 8; bits++) {
            boolean a = (bits & 1) != 0;
            boolean b = (bits & 2) != 0;
            boolean c = (bits & 4) != 0;
            String x = a ? "l=5" : "l=4";
            String y = b ? "l>4" : "l>5";
            String z = c ? "l<6" : "l<5";
            holds(lettered(5), 0, x + "|" + y + "&" + z, a || b && c);
            holds(lettered(5), 0, x + "&" + y + "|" + z, a && b || c);
            holds(lettered(5), 0, "(" + x + "|" + y + ")&" + z, (a || b) && c);
            holds(lettered(5), 0, x + "&(" + y + "|" + z + ")", a && (b || c));
            holds(lettered(5), 0, x + "&" + y + "&" + z, a && b && c);
            holds(lettered(5), 0, x + "|" + y + "|" + z, a || b || c);
            holds(lettered(5), 0, x + "|(" + y + ")&" + z, a || b && c);
            holds(lettered(5), 0, x + "|((" + y + "))", a || b);
            holds(lettered(5), 0, "(" + x + "|(" + y + "&" + z + "))&" + z, (a || b && c) && c);
            holds(lettered(5), 0, "(" + x + ")|(" + y + ")|((" + z + "))", a || b || c);
            holds(lettered(5), 0, "((((((((" + x + "))))))))&(" + y + "|((" + z + ")))", a && (b || c));
        }
    }

    private static void years() {
        check.says("Terms 2", "d SERVED DAYS, y those by 360, cut");
        int[][] due = {{1, 0}, {359, 0}, {360, 1}, {361, 1}, {719, 1}, {720, 2}, {19799, 54}, {19800, 55}, {20001, 55}};
        for (int[] each : due) {
            holds(served(each[0]), 0, "d=" + each[0] + "&y=" + each[1], true);
            holds(served(each[0]), 0, "d<" + each[0] + "|d>" + each[0], false);
            holds(served(each[0]), 0, "y<" + each[1] + "|y>" + each[1], false);
        }
    }

    /** What was found for one person is not left over for the next. */
    private static void oneAfterTheOther() {
        GuildHouse house = Check.houseOf(3);
        house.give(0, 1, 0);
        house.give(1, 2, 0);
        Check.statute(house, "(l=1|l=2)&(l=1|l=3)|l=1|l=9", 0);
        int[] due = {1, 0, 0};
        for (int i = 0; i < 9; i++) {
            check.same("may of " + i % 3, house.may(i % 3, 0, 0), due[i % 3]);
        }
    }

    private static GuildHouse served(int days) {
        GuildHouse house = Check.after(20000, Check.houseOf(2));
        house.term(0, 1, 20001 - days, 20000);
        return house;
    }

    private static void roadLettersFees() {
        check.says("Terms 2", "w ROAD DAYS, l LETTERS, f FEES");
        GuildHouse house = Check.after(100, Check.houseOf(2));
        house.term(0, NONE, 0, 40);
        house.term(0, 1, 40, 49);
        house.give(0, 9, 0);
        house.give(0, 9, 0);
        for (int i = 0; i < 10; i++) {
            house.give(0, 0, 9999);
        }
        house.give(0, 0, 9);
        holds(house, 0, "w=40&l=18&f=99999&d=10", true);
        holds(house, 0, "f>99999", false);
        holds(house, 0, "f<99999", false);
        house.give(0, 0, 1);
        holds(house, 0, "f>99999", true);
        holds(house, 0, "f=99999", false);
        holds(house, 1, "w=0&l=0&f=0&d=0&y=0&m=0&k=0", true);
    }

    private static void mark() {
        check.says("Terms 2", "m the mark of the latest PIECE that passed (0), with its DAY up to d and q");
        GuildHouse house = Check.after(10, Check.houseOf(5, 4));
        check.same("none", house.value(4, 4, 10, 10), 0);
        house.piece(4, 1L);
        check.same("not done", house.value(4, 4, 20000, 10), 0);
        Check.markAll(house, 0, 9, 9, 9, 4);
        check.same("not passed", house.value(4, 4, 20000, 10), 0);
        house.days(10);
        house.piece(4, 1L);
        house.days(10);
        Check.markAll(house, 1, 9, 9, 9, 8);
        house.days(10);
        int[][] due = {{29, 40, 0}, {30, 40, 8}, {31, 40, 8}, {20000, 40, 8}, {40, 29, 0}, {40, 30, 8}, {30, 30, 8}, {29, 29, 0}};
        for (int[] each : due) {
            check.same("m on " + each[0] + " as known on " + each[1], house.value(4, 4, each[0], each[1]), each[2]);
        }
        holds(house, 4, "m=8", true);
        holds(house, 4, "m<8|m>8", false);
        holds(house, 0, "m=0", true);
    }

    private static void childOfAMaster() {
        check.says("Terms 2", "k 1 if a parent was a MASTER by then (d and q)");
        GuildHouse house = Check.houseOf(2);
        house.person(0, NONE);
        house.person(NONE, 0);
        house.person(0, 1);
        house.person(NONE, NONE);
        house.days(10);
        house.master(0);
        house.days(10);
        house.master(1);
        house.days(10);
        house.death(0, NONE);
        int[][] due = {{9, 30, 0}, {10, 30, 1}, {30, 9, 0}, {30, 10, 1}, {10, 10, 1}, {9, 9, 0}, {30, 30, 1}};
        for (int[] each : due) {
            String of = " on " + each[0] + " as known on " + each[1];
            for (int child = 2; child < 5; child++) {
                check.same("k of " + child + of, house.value(child, 5, each[0], each[1]), each[2]);
            }
            check.same("k of one without parents" + of, house.value(5, 5, each[0], each[1]), 0);
            check.same("k of a master" + of, house.value(1, 5, each[0], each[1]), 0);
        }
        holds(house, 2, "k=1", true);
        holds(house, 5, "k=0", true);
        GuildHouse second = Check.withChild(Check.houseOf(2), 0, 1);
        check.same("no parent is a master", second.value(2, 5, 0, 0), 0);
        second.master(1);
        check.same("the other parent is", second.value(2, 5, 0, 0), 1);
    }

    private static void mayByThis() {
        check.says("Terms 2", "1 if the STATUTE IN FORCE on d holds");
        GuildHouse house = Check.after(60, Check.houseOf(2));
        Check.statute(house, "d>4", 0);
        Check.statute(house, "d>9", 30);
        house.term(0, 1, 20, 60);
        check.same("five served days", house.may(0, 24, 60), 1);
        check.same("four", house.may(0, 23, 60), 0);
        check.same("ten on 29", house.may(0, 29, 60), 1);
        check.same("eleven on 30", house.may(0, 30, 60), 1);
        GuildHouse late = Check.after(60, Check.houseOf(2));
        Check.statute(late, "d>4", 0);
        Check.statute(late, "d>9", 30);
        late.term(0, 1, 21, 60);
        check.same("nine on 29, by the first", late.may(0, 29, 60), 1);
        check.same("ten on 30, by the second", late.may(0, 30, 60), 1);
        GuildHouse later = Check.after(60, Check.houseOf(2));
        Check.statute(later, "d>4", 0);
        Check.statute(later, "d>9", 30);
        later.term(0, 1, 22, 60);
        check.same("nine on 30, by the one of the first day", later.may(0, 30, 60), 2);
        check.same("ten on 31, by the second", later.may(0, 31, 60), 1);
    }

    /** From day 50 on nobody may come by that day's statute; before it, all may who have a letter. */
    private static GuildHouse stricter() {
        GuildHouse house = Check.houseOf(3);
        house.give(0, 1, 0);
        house.give(1, 1, 0);
        house.days(60);
        Check.statute(house, "l=1", 40);
        Check.statute(house, "l>1", 50);
        return house;
    }

    private static void servedDayUpToD() {
        check.says("Terms 2", "else 2 if the PERSON has a SERVED DAY up to d");
        GuildHouse house = stricter();
        house.days(40);
        check.same("none", house.may(0, 100, 100), 0);
        house.term(0, NONE, 45, 45);
        check.same("a day on the road", house.may(0, 100, 100), 0);
        house.term(0, 1, 49, 49);
        check.same("one", house.may(0, 100, 100), 2);
        check.same("as known before", house.may(0, 100, 99), 0);
        check.same("of another", house.may(1, 100, 100), 0);
        house.back(1);
        check.same("taken back", house.may(0, 100, 100), 0);
        GuildHouse early = stricter();
        Check.statute(early, "l=1", 20);
        Check.statute(early, "l=9", 21);
        early.term(0, 1, 20, 30);
        check.same("the first of eleven", early.may(0, 60, 60), 2);
        GuildHouse future = Check.after(60, Check.houseOf(2));
        Check.statute(future, "d=0&l=9", 20);
        future.term(0, 1, 10, 10);
        check.same("served before", future.may(0, 20, 60), 2);
        GuildHouse behind = Check.after(60, Check.houseOf(2));
        Check.statute(behind, "l=9", 0);
        Check.statute(behind, "l=0", 30);
        Check.statute(behind, "l=9", 31);
        behind.term(0, 1, 30, 30);
        check.same("on 29 the served day is behind", behind.may(0, 29, 60), 0);
        check.same("on 30 by that day's", behind.may(0, 30, 60), 1);
        check.same("on 31 by the older", behind.may(0, 31, 60), 2);
    }

    private static void inForceOnTheFirst() {
        check.says("Terms 2", "the one IN FORCE on the first of them holds");
        int[][] due = {{39, 2}, {40, 2}, {49, 2}, {50, 0}, {51, 0}};
        for (int[] each : due) {
            GuildHouse house = stricter();
            house.term(0, 1, each[0], 55);
            check.same("first served on " + each[0], house.may(0, 60, 60), each[1]);
            house.term(0, 2, 52, 52);
            check.same("a later one changes nothing", house.may(0, 60, 60), each[1]);
        }
        GuildHouse house = stricter();
        house.term(2, 1, 49, 49);
        check.same("who has no letter", house.may(2, 60, 60), 0);
        house.term(2, 1, 40, 40);
        check.same("on the first day of the older", house.may(2, 60, 60), 0);
        house.term(2, 1, 39, 39);
        check.same("none in force on that day: all may come", house.may(2, 60, 60), 2);
        GuildHouse told = stricter();
        told.term(0, 1, 49, 49);
        told.days(1);
        Check.statute(told, "l=9", 49);
        check.same("as known the day before", told.may(0, 61, 60), 2);
        check.same("as known then", told.may(0, 61, 61), 0);
    }

    private static void valuesOfD() {
        check.says("Terms 2", "(with the values of d)");
        GuildHouse house = Check.after(100, Check.houseOf(2));
        Check.statute(house, "d>9", 0);
        Check.statute(house, "l>0", 20);
        house.term(0, 1, 0, 0);
        house.term(0, 1, 30, 90);
        check.same("nine on 37", house.may(0, 37, 100), 0);
        check.same("ten on 38, though one on the first", house.may(0, 38, 100), 2);
        house.give(0, 1, 0);
        check.same("letters of 100 do not help on 37", house.may(0, 37, 100), 0);
        check.same("letters of 100 on 100", house.may(0, 100, 100), 1);
    }

    private static void mayNot() {
        check.says("Terms 2", "else 0");
        GuildHouse house = inForce();
        check.same("k=0 holds", house.may(1, 30, 30), 1);
        Check.statute(house, "k=1", 0);
        check.same("k=1 does not, and no day was served", house.may(1, 30, 30), 0);
        house.term(1, 0, 5, 5);
        check.same("nor does it on the first served day", house.may(1, 30, 30), 0);
    }

    private static void mayAnswers() {
        check.says("Promise 15", "MAY.");
        GuildHouse house = stricter();
        house.term(0, 1, 49, 49);
        check.same("1", house.may(0, 49, 60), 1);
        check.same("2", house.may(0, 50, 60), 2);
        check.same("0", house.may(1, 50, 60), 0);
        check.changesNothing("may", StatuteEdgeTest::stricter, h -> h.may(0, 50, 60));
    }

    private static void mayRefused() {
        check.says("Promise 15", "no such PERSON");
        check.same("the last", stricter().may(2, 0, 60), 1);
        for (int who : new int[] {3, 30, MAX, NONE, MIN}) {
            check.isNone("may(" + who + ")", StatuteEdgeTest::stricter, h -> h.may(who, 50, 60));
            check.isNone("may(" + who + ") without a statute", () -> Check.houseOf(3), h -> h.may(who, 0, 0));
        }

        check.says("Promise 15", ", d,");
        check.same("d 0", stricter().may(0, 0, 60), 1);
        check.same("d 20,000", stricter().may(0, 20000, 60), 0);
        for (int d : new int[] {-1, 20001, MIN, MAX}) {
            check.isNone("d " + d, StatuteEdgeTest::stricter, h -> h.may(0, d, 60));
        }

        check.says("Promise 15", ", q");
        check.same("q 0", stricter().may(0, 60, 0), 1);
        check.same("q 60", stricter().may(0, 60, 60), 0);
        for (int q : new int[] {-1, 61, MIN, MAX}) {
            check.isNone("q " + q, StatuteEdgeTest::stricter, h -> h.may(0, 60, q));
        }
    }
}
