/** The edges that the document names of pieces, their judges and points: promises 16 to 19. */
public final class PieceEdgeTest {
    private static final int NONE = GuildHouse.NONE;
    private static final int MIN = Integer.MIN_VALUE;
    private static final int MAX = Integer.MAX_VALUE;
    private static final Check check = new Check("PieceEdgeTest");

    public static void main(String[] args) {
        mostPieces();
        numbersOfPieces();
        noSuchPerson();
        masterOrDead();
        whoMayCome();
        oneNotDone();
        fewerThanThree();
        mastersAlone();
        notKin();
        neverServed();
        byTheirNumbers();
        goingRound();
        shiftedWithoutSign();
        takenOut();
        judge();
        partsAndPoints();
        outOfBounds();
        toldAgain();
        allTwelve();
        markIsCut();
        fifteenOrMore();
        firstWithLess();
        masterFromThatDay();
        told();
        toldOfOthers();
        check.finish();
    }

    /** So many pieces, of which the first fifteen are done: person 18 has none that is not. */
    private static GuildHouse withPieces(int pieces) {
        GuildHouse house = Check.houseOf(30, 4);
        for (int i = 0; i < pieces; i++) {
            house.piece(4 + i % 26, i);
            if (i < 15) {
                Check.markAll(house, i, 9, 9, 9, 4);
            }
        }
        return house;
    }

    /** Day 5: piece 0 of person 3 is open, with three points given; 0, 1 and 2 judge, 4 is a child of 3. */
    private static GuildHouse openPiece() {
        GuildHouse house = Check.withChild(Check.houseOf(4, 3), 3, NONE);
        house.days(5);
        house.piece(3, 1L);
        house.mark(0, 0, 0, 4);
        house.mark(0, 1, 1, 5);
        house.mark(0, 2, 3, 6);
        return house;
    }

    private static void mostPieces() {
        check.says("Terms 3", "A PIECE (40 at most)");
        check.same("the 40th", withPieces(39).piece(18, 1L), 39);
        check.same("forty", withPieces(40).count(5), 40);
        check.isNone("the 41st", () -> withPieces(40), h -> h.piece(18, 1L));

        check.says("Promise 16", "there are 40");
        GuildHouse house = withPieces(39);
        check.same("the 40th of another seed", house.piece(18, -1L), 39);
        check.same("its person", house.told(39, 0), 18);
        check.yes("its points are given", house.mark(39, 2, 3, 10));
        Check.markAll(house, 39, 5, 5, 5, 5);
        check.same("it passed", house.told(39, 3), 1);
        check.isNone("the 41st of another seed", () -> withPieces(40), h -> h.piece(18, -1L));
    }

    private static void numbersOfPieces() {
        check.says("Promise 16", "A PIECE: its number");
        GuildHouse house = Check.houseOf(6, 3);
        for (int i = 0; i < 3; i++) {
            check.same("piece", house.piece(3 + i, 9L), i);
            check.same("count(5)", house.count(5), i + 1);
        }
    }

    private static void noSuchPerson() {
        check.says("Promise 16", "no such PERSON");
        check.same("the last", Check.houseOf(5, 3).piece(4, 1L), 0);
        for (int who : new int[] {5, 30, MAX, NONE, MIN}) {
            check.isNone("piece(" + who + ")", () -> Check.houseOf(5, 3), h -> h.piece(who, 1L));
        }
    }

    private static void masterOrDead() {
        check.says("Promise 16", "it is a MASTER or dead");
        check.same("who is no master", Check.houseOf(6, 5).piece(5, 1L), 0);
        check.isNone("a master", () -> Check.houseOf(6, 5), h -> h.piece(4, 1L));
        check.isNone("the dead", () -> {
            GuildHouse house = Check.houseOf(6, 5);
            house.death(4, NONE);
            return house;
        }, h -> h.piece(4, 1L));
        check.isNone("who passed", () -> {
            GuildHouse house = Check.houseOf(6, 5);
            house.piece(5, 1L);
            Check.markAll(house, 0, 5, 5, 5, 5);
            return house;
        }, h -> h.piece(5, 1L));
    }

    /** Day 60; a statute in force on 40 .. 49 asks for one letter, one from 50 on for two; 4 and 5 have one. */
    private static GuildHouse stricter() {
        GuildHouse house = Check.houseOf(6, 3);
        house.give(4, 1, 0);
        house.give(5, 1, 0);
        house.days(60);
        Check.statute(house, "l>0", 40);
        Check.statute(house, "l>1", 50);
        house.term(4, 5, 49, 49);
        house.term(5, 4, 50, 50);
        return house;
    }

    private static void whoMayCome() {
        check.says("Terms 3", "of a PERSON that MAY come, as known NOW");
        check.same("MAY is 2", stricter().piece(4, 1L), 0);
        GuildHouse house = stricter();
        house.give(5, 1, 0);
        check.same("MAY is 1", house.piece(5, 1L), 0);
        GuildHouse back = stricter();
        back.back(0);
        check.same("the service was taken back", back.piece(4, 1L), NONE);
        GuildHouse later = stricter();
        Check.statute(later, "l<9", 61);
        check.same("a statute that is to come", later.piece(5, 1L), NONE);
        later.days(1);
        check.same("on its day", later.piece(5, 1L), 0);

        check.says("Promise 16", "MAY (NOW, as known NOW) is 0");
        check.isNone("MAY is 0", PieceEdgeTest::stricter, h -> h.piece(5, 1L));
        check.isNone("MAY is 0 without service", PieceEdgeTest::stricter, h -> h.piece(3, 1L));
    }

    private static void oneNotDone() {
        check.says("Promise 16", "it has one that is not done");
        check.isNone("not done", PieceEdgeTest::openPiece, h -> h.piece(3, 1L));
        check.isNone("not done, of ten masters", () -> {
            GuildHouse house = Check.houseOf(11, 10);
            house.piece(10, 7L);
            return house;
        }, h -> h.piece(10, 8L));
        check.same("of another", openPiece().piece(4, 1L), 1);
        GuildHouse house = openPiece();
        for (int cell = 0; cell < 11; cell++) {
            house.mark(0, cell / 4, cell % 4, 0);
        }
        check.same("all twelve are given by now", house.told(0, 1), 1);
        check.same("done", house.piece(3, 1L), 1);
        GuildHouse eleven = Check.houseOf(4, 3);
        eleven.piece(3, 1L);
        for (int cell = 0; cell < 11; cell++) {
            eleven.mark(0, cell / 4, cell % 4, 0);
        }
        check.same("eleven", eleven.piece(3, 1L), NONE);
        eleven.mark(0, 2, 3, 0);
        check.same("twelve", eleven.piece(3, 1L), 1);
    }

    private static void fewerThanThree() {
        check.says("Promise 16", "fewer than three judges");
        for (int masters = 0; masters < 3; masters++) {
            int few = masters;
            check.isNone(few + " masters", () -> {
                GuildHouse house = Check.houseOf(5, few);
                house.hire(0, 4);
                return house;
            }, h -> h.piece(4, 1L));
        }
        check.same("three", Check.houseOf(5, 3).piece(4, 1L), 0);
        check.isNone("two and a parent", () -> Check.withChild(Check.houseOf(3, 3), 0, NONE), h -> h.piece(3, 1L));
        check.isNone("two and one who was served", PieceEdgeTest::threeOneServed, h -> h.piece(4, 1L));
        GuildHouse house = threeOneServed();
        house.master(3);
        check.same("three and one who was served", judgesOf(house, house.piece(4, 1L)), 0b1110);
    }

    private static GuildHouse threeOneServed() {
        GuildHouse house = Check.houseOf(5, 3);
        house.term(4, 0, 0, 0);
        return house;
    }

    /** The judges as bits; NONE if there is no such piece. */
    private static int judgesOf(GuildHouse house, int piece) {
        int all = 0;
        for (int i = 0; i < 3 && piece != NONE; i++) {
            all |= 1 << house.judge(piece, i);
        }
        return piece == NONE ? NONE : all;
    }

    private static void mastersAlone() {
        check.says("Terms 3", "gets three judges: of the MASTERS");
        for (long seed = 0; seed < 20; seed++) {
            GuildHouse house = Check.houseOf(9);
            house.master(1);
            house.master(5);
            house.master(8);
            house.master(6);
            house.death(6, NONE);
            check.same("the three who are masters", judgesOf(house, house.piece(0, seed)), 0b100100010);
        }
        GuildHouse late = Check.houseOf(5, 2);
        late.master(4);
        check.same("a master of this day", judgesOf(late, late.piece(3, 1L)), 0b10011);
    }

    private static void notKin() {
        check.says("Terms 3", "who are not KIN to the PERSON");
        int[][] kin = {{0, NONE}, {NONE, 0}};
        for (int[] each : kin) {
            GuildHouse child = Check.withChild(Check.houseOf(4, 4), each[0], each[1]);
            check.same("not a parent", judgesOf(child, child.piece(4, 2L)), 0b1110);
            GuildHouse parent = Check.withChild(Check.houseOf(4, 3), each[0] == 0 ? 3 : NONE, each[1] == 0 ? 3 : NONE);
            parent.master(4);
            check.same("not a child", judgesOf(parent, parent.piece(3, 2L)), 0b0111);
            GuildHouse sibling = Check.houseOf(1);
            sibling.person(0, NONE);
            sibling.person(each[0], each[1]);
            sibling.person(NONE, NONE);
            sibling.master(1);
            sibling.master(3);
            check.same("two strangers are too few", Check.withChild(sibling, NONE, NONE).piece(2, 2L), NONE);
            sibling.master(4);
            sibling.person(2, NONE);
            sibling.person(1, NONE);
            sibling.master(6);
            check.same("not a sibling, but its child", judgesOf(sibling, sibling.piece(2, 2L)), 0b1011000);
        }
        GuildHouse house = Check.withChild(Check.withChild(Check.houseOf(3, 3), 0, NONE), 3, NONE);
        check.same("a grandparent", judgesOf(house, house.piece(4, 2L)), 0b111);
    }

    private static void neverServed() {
        check.says("Terms 3", "whom the PERSON never SERVED (as known NOW)");
        GuildHouse house = Check.after(9, Check.houseOf(6, 4));
        house.term(4, 1, 3, 3);
        check.same("not who was served for a day", judgesOf(house, house.piece(4, 2L)), 0b1101);
        house.term(5, NONE, 0, 9);
        house.term(4, 2, 0, 9);
        house.term(0, 5, 0, 9);
        house.term(5, 3, 0, 9);
        house.term(5, 1, 0, 9);
        house.back(5);
        check.same("nor who was served in what stands", judgesOf(house, house.piece(5, 2L)), 0b0111);
        GuildHouse again = Check.after(9, Check.houseOf(5, 4));
        again.term(4, 0, 0, 0);
        again.term(4, 0, 5, 5);
        again.back(0);
        check.same("served in another term", judgesOf(again, again.piece(4, 2L)), 0b1110);
        GuildHouse later = Check.after(9, Check.houseOf(5, 3));
        later.term(4, 3, 0, 9);
        later.master(3);
        check.same("who became a master later", judgesOf(later, later.piece(4, 2L)), 0b0111);
        GuildHouse hundred = Check.houseOf(5, 4);
        for (int i = 0; i < 100; i++) {
            hundred.term(4, i < 99 ? NONE : 3, 0, 0);
        }
        check.same("served in the 100th", judgesOf(hundred, hundred.piece(4, 2L)), 0b0111);
    }

    private static void drawn(long seed, int masters, int... due) {
        GuildHouse house = Check.houseOf(masters + 1, masters);
        check.same("piece", house.piece(masters, seed), 0);
        for (int i = 0; i < 3; i++) {
            check.same("judge " + i + " of " + masters + " by " + seed, house.judge(0, i), due[i]);
        }
    }

    private static void byTheirNumbers() {
        check.says("Terms 3", "by their numbers");
        GuildHouse house = Check.houseOf(11);
        for (int master = 9; master >= 0; master--) {
            house.master(master);
        }
        house.piece(10, 7L);
        int[] due = {8, 9, 1};
        for (int i = 0; i < 3; i++) {
            check.same("whatever the order in which they became masters", house.judge(0, i), due[i]);
        }
        GuildHouse gaps = Check.houseOf(10);
        for (int master : new int[] {9, 1, 6, 4}) {
            gaps.master(master);
        }
        gaps.piece(0, -84997745826115563L);
        int[] dueOfGaps = {4, 1, 9};
        for (int i = 0; i < 3; i++) {
            check.same("of 1, 4, 6, 9", gaps.judge(0, i), dueOfGaps[i]);
        }
    }

    /** The answers were reckoned outside of Java, with whole numbers modulo 2 to the 64th. */
    private static void goingRound() {
        check.says("Terms 3", "becomes x times 6364136223846793005 and 1442695040888963407 (64 bits, going round)");
        drawn(0L, 10, 7, 3, 1);
        drawn(1L, 10, 4, 3, 6);
        drawn(-1L, 10, 8, 5, 6);
        drawn(Long.MAX_VALUE, 10, 4, 5, 7);
        drawn(Long.MIN_VALUE, 10, 1, 5, 2);
        drawn(0L, 29, 18, 8, 27);
        drawn(1L, 29, 4, 1, 14);
        drawn(-1L, 29, 11, 3, 12);
        drawn(Long.MAX_VALUE, 29, 7, 24, 19);
        drawn(Long.MIN_VALUE, 29, 22, 16, 6);
        drawn(123456789012345L, 17, 6, 15, 3);
    }

    /** Seeds that make x at first 0, 2^33 - 1, 2^33, 2^34 - 1, 2^34, the greatest, the least, and -1. */
    private static void shiftedWithoutSign() {
        check.says("Terms 3", "x shifted right by 33, without sign");
        drawn(-7379792620528906219L, 10, 0, 9, 1);
        drawn(4483922187169113968L, 10, 0, 1, 2);
        drawn(-84997745826115563L, 10, 1, 7, 2);
        drawn(-6668027011837646992L, 10, 1, 8, 2);
        drawn(7209797128876675093L, 10, 2, 3, 4);
        drawn(6412499349321099120L, 10, 3, 4, 9);
        drawn(1843579416325869589L, 10, 4, 0, 1);
        drawn(-2810872687533676688L, 10, 7, 4, 9);
        drawn(6412499349321099120L, 29, 3, 5, 15);
        drawn(1843579416325869589L, 29, 4, 3, 6);
        drawn(-2810872687533676688L, 29, 7, 13, 5);
    }

    private static void takenOut() {
        check.says("Terms 3", "modulo how many there are (from 0 on) is taken out");
        drawn(-7379792620528906219L, 3, 0, 2, 1);
        drawn(-84997745826115563L, 3, 1, 0, 2);
        drawn(7209797128876675093L, 3, 2, 1, 0);
        drawn(6412499349321099120L, 3, 0, 1, 2);
        drawn(1843579416325869589L, 3, 1, 2, 0);
        drawn(-2810872687533676688L, 4, 3, 1, 2);
        for (long seed = -50; seed < 50; seed++) {
            GuildHouse house = Check.houseOf(5, 4);
            check.same("three unlike judges", Integer.bitCount(judgesOf(house, house.piece(4, seed))), 3);
        }

        check.says("Terms 3", "again with x");
        drawn(4483922187169113968L, 29, 0, 14, 17);
        drawn(-84997745826115563L, 29, 1, 13, 24);
        drawn(7209797128876675093L, 29, 2, 14, 6);
        GuildHouse house = Check.houseOf(12, 10);
        house.piece(10, 7L);
        house.piece(11, 7L);
        check.same("a seed begins anew", house.judge(1, 0) * 100 + house.judge(1, 1) * 10 + house.judge(1, 2), 891);
    }

    private static void judge() {
        check.says("Promise 17", "Judge i (0 .. 2) of a PIECE");
        GuildHouse house = Check.houseOf(11, 10);
        house.piece(10, 7L);
        check.same("judge(0, 0)", house.judge(0, 0), 8);
        check.same("judge(0, 1)", house.judge(0, 1), 9);
        check.same("judge(0, 2)", house.judge(0, 2), 1);
        house.death(8, NONE);
        check.same("who has died was the judge", house.judge(0, 0), 8);
        check.yes("the 40th has judges", withPieces(40).judge(39, 2) >= 0);

        check.says("Promise 17", "NONE: no such");
        for (int i : new int[] {-1, 3, MIN, MAX}) {
            check.isNone("judge(0, " + i + ")", PieceEdgeTest::openPiece, h -> h.judge(0, i));
        }
        for (int piece : new int[] {-1, 1, 39, 40, MIN, MAX}) {
            check.isNone("judge(" + piece + ", 0)", PieceEdgeTest::openPiece, h -> h.judge(piece, 0));
        }
        check.isNone("judge(40, 0) of 40", () -> withPieces(40), h -> h.judge(40, 0));
        check.isNone("judge(0, 0) of none", () -> Check.houseOf(4, 3), h -> h.judge(0, 0));
    }

    private static void partsAndPoints() {
        check.says("Terms 3", "Each judge gives each of four parts 0 .. 10");
        for (int points : new int[] {0, 10}) {
            GuildHouse house = Check.houseOf(4, 3);
            house.piece(3, 1L);
            for (int cell = 0; cell < 12; cell++) {
                check.same("not done", house.told(0, 1), 0);
                check.yes("mark of " + points, house.mark(0, cell / 4, cell % 4, points));
            }
            check.same("done", house.told(0, 1), 1);
            check.same("mark", house.told(0, 2), points);
        }

        check.says("Promise 18", "Judge i gives a part (0 .. 3) points (0 .. 10");
        check.yes("mark(0, 0, 0, 0)", openPiece().mark(0, 0, 0, 0));
        check.yes("mark(0, 2, 3, 10)", openPiece().mark(0, 2, 3, 10));
        check.yes("of the 40th", withPieces(40).mark(39, 2, 3, 10));
    }

    private static void outOfBounds() {
        check.says("Promise 18", "no such");
        for (int piece : new int[] {-1, 1, 39, 40, MIN, MAX}) {
            check.isFalse("mark of piece " + piece, PieceEdgeTest::openPiece, h -> h.mark(piece, 0, 0, 5));
        }
        check.isFalse("mark of piece 40 of 40", () -> withPieces(40), h -> h.mark(40, 0, 0, 5));
        check.isFalse("mark of none", () -> Check.houseOf(4, 3), h -> h.mark(0, 0, 0, 5));

        check.says("Promise 18", "out of bounds");
        for (int wrong : new int[] {-1, MIN, MAX}) {
            check.isFalse("judge " + wrong, PieceEdgeTest::openPiece, h -> h.mark(0, wrong, 0, 5));
            check.isFalse("part " + wrong, PieceEdgeTest::openPiece, h -> h.mark(0, 0, wrong, 5));
            check.isFalse("points " + wrong, PieceEdgeTest::openPiece, h -> h.mark(0, 0, 0, wrong));
            check.isFalse("first points " + wrong, PieceEdgeTest::openPiece, h -> h.mark(0, 2, 2, wrong));
        }
        check.isFalse("judge 3", PieceEdgeTest::openPiece, h -> h.mark(0, 3, 0, 5));
        check.isFalse("part 4", PieceEdgeTest::openPiece, h -> h.mark(0, 0, 4, 5));
        check.isFalse("part 4 of the last judge", PieceEdgeTest::openPiece, h -> h.mark(0, 2, 4, 5));
        check.isFalse("points 11", PieceEdgeTest::openPiece, h -> h.mark(0, 0, 0, 11));
        check.isFalse("points 11 at last", PieceEdgeTest::lacksOne, h -> h.mark(0, 2, 2, 11));
        check.isFalse("points -1 at last", PieceEdgeTest::lacksOne, h -> h.mark(0, 2, 2, -1));
    }

    /** Eleven points of 5 are given; judge 2 has not given part 2. */
    private static GuildHouse lacksOne() {
        GuildHouse house = openPiece();
        for (int cell = 0; cell < 12; cell++) {
            if (cell != 10) {
                house.mark(0, cell / 4, cell % 4, 5);
            }
        }
        return house;
    }

    private static void toldAgain() {
        check.says("Promise 18", "told again: that, till it is done");
        GuildHouse house = lacksOne();
        check.yes("again, lower", house.mark(0, 0, 0, 0));
        check.yes("again, the same", house.mark(0, 0, 0, 0));
        check.yes("again, higher", house.mark(0, 0, 1, 10));
        check.same("still not done", house.told(0, 1), 0);
        check.yes("the twelfth", house.mark(0, 2, 2, 5));
        check.same("done", house.told(0, 1), 1);
        check.same("the mark of what was told last: 60", house.told(0, 2), 5);
        check.same("part 0 has 10", house.told(0, 4), 0);

        check.says("Promise 18", ", it is done");
        check.isFalse("a piece that passed", PieceEdgeTest::passed, h -> h.mark(0, 0, 0, 0));
        check.isFalse("the same points", PieceEdgeTest::passed, h -> h.mark(0, 0, 0, 5));
        check.isFalse("a day later", () -> Check.after(1, passed()), h -> h.mark(0, 0, 0, 10));
        check.isFalse("a piece refused", PieceEdgeTest::refusedPiece, h -> h.mark(0, 2, 2, 10));
    }

    private static GuildHouse passed() {
        GuildHouse house = lacksOne();
        house.mark(0, 2, 2, 5);
        return house;
    }

    private static GuildHouse refusedPiece() {
        GuildHouse house = lacksOne();
        house.mark(0, 2, 2, 4);
        return house;
    }

    private static void allTwelve() {
        check.says("Terms 3", "As all twelve are given it is done on that DAY");
        for (int last = 0; last < 12; last++) {
            GuildHouse house = Check.houseOf(4, 3);
            house.piece(3, 1L);
            house.days(7);
            for (int cell = 0; cell < 12; cell++) {
                if (cell != last) {
                    house.mark(0, cell / 4, cell % 4, 5);
                }
            }
            house.days(3);
            check.same("not done with eleven", house.told(0, 1), 0);
            check.same("no day", house.told(0, 5), NONE);
            house.mark(0, last / 4, last % 4, 5);
            house.days(3);
            check.same("done with twelve", house.told(0, 1), 1);
            check.same("on the day of the twelfth", house.told(0, 5), 10);
        }
        GuildHouse first = Check.houseOf(4, 3);
        first.piece(3, 1L);
        Check.markAll(first, 0, 5, 5, 5, 5);
        check.same("on day 0", first.told(0, 5), 0);
    }

    private static void markIsCut() {
        check.says("Terms 3", "its mark is their sum by 12, cut");
        for (int sum = 0; sum <= 120; sum++) {
            GuildHouse house = Check.houseOf(4, 3);
            house.piece(3, 1L);
            int left = sum;
            for (int cell = 0; cell < 12; cell++) {
                int points = Math.min(10, left);
                house.mark(0, cell % 3, cell / 3, points);
                left -= points;
            }
            check.same("mark of " + sum, house.told(0, 2), sum / 12);
        }
    }

    private static void fifteenOrMore() {
        check.says("Terms 3", "it passed if of each part the sum is 15 or more");
        int[][] points = {{5, 5, 5, 1}, {0, 5, 10, 1}, {10, 4, 1, 1}, {5, 5, 6, 1}, {4, 5, 5, 0}, {0, 4, 10, 0}, {10, 4, 0, 0}};
        for (int[] each : points) {
            for (int part = 0; part < 4; part++) {
                GuildHouse house = Check.houseOf(4, 3);
                house.piece(3, 1L);
                for (int cell = 0; cell < 12; cell++) {
                    house.mark(0, cell / 4, cell % 4, cell % 4 == part ? each[cell / 4] : 5);
                }
                check.same("done", house.told(0, 1), 1);
                check.same("passed with part " + part, house.told(0, 3), each[3]);
                check.same("masters", house.count(2), 3 + each[3]);
            }
        }
    }

    private static void firstWithLess() {
        check.says("Terms 3", "else the REFUSED part is the first with less");
        for (int low = 0; low < 16; low++) {
            GuildHouse house = Check.houseOf(4, 3);
            house.piece(3, 1L);
            int first = NONE;
            for (int part = 3; part >= 0; part--) {
                boolean less = (low >> part & 1) == 1;
                house.mark(0, 0, part, less ? 4 : 5);
                house.mark(0, 1, part, part == 0 && less ? 0 : 5);
                house.mark(0, 2, part, part == 3 && less ? 3 : 5);
                first = less ? part : first;
            }
            check.same("of the parts " + low, house.told(0, 4), first);
            check.same("passed", house.told(0, 3), first == NONE ? 1 : 0);
        }
    }

    private static void masterFromThatDay() {
        check.says("Terms 3", "Who passed is a MASTER from that DAY on");
        GuildHouse house = Check.after(10, lacksOne());
        check.same("not with eleven", house.hands(3), NONE);
        house.mark(0, 2, 2, 5);
        check.same("with twelve", house.hands(3), 0);
        check.same("masters", house.count(2), 4);
        check.no("it is one", house.master(3));
        house.days(10);
        check.same("k on the day before", house.value(4, 5, 14, 25), 0);
        check.same("k on that day", house.value(4, 5, 15, 25), 1);
        check.same("k as known on the day before", house.value(4, 5, 25, 14), 0);
        check.same("k as known on that day", house.value(4, 5, 25, 15), 1);
        GuildHouse earlier = lacksOne();
        earlier.master(3);
        earlier.days(10);
        earlier.mark(0, 2, 2, 5);
        check.same("who was one before", earlier.value(4, 5, 5, 15), 1);
        check.same("is no second one", earlier.count(2), 4);
        GuildHouse not = refusedPiece();
        check.same("who did not pass is none", not.hands(3), NONE);
        check.yes("but may be told one", not.master(3));
    }

    private static void told() {
        check.says("Promise 19", "0 the PERSON, 1 whether it is done (1), 2 its mark (NONE: not done), 3 whether it passed (1), 4 the REFUSED part (NONE), 5 the DAY on which it was done (NONE)");
        toldIs(openPiece(), 3, 0, NONE, 0, NONE, NONE);
        toldIs(lacksOne(), 3, 0, NONE, 0, NONE, NONE);
        toldIs(passed(), 3, 1, 5, 1, NONE, 5);
        toldIs(refusedPiece(), 3, 1, 4, 0, 2, 5);
        toldIs(Check.after(9, passed()), 3, 1, 5, 1, NONE, 5);
    }

    private static void toldIs(GuildHouse house, int... due) {
        for (int what = 0; what < 6; what++) {
            check.same("told(0, " + what + ")", house.told(0, what), due[what]);
        }
    }

    private static void toldOfOthers() {
        check.says("Promise 19", "NONE for others");
        for (int what : new int[] {-1, 6, MIN, MAX}) {
            check.isNone("told(0, " + what + ")", PieceEdgeTest::passed, h -> h.told(0, what));
        }
        for (int what = 0; what < 6; what++) {
            int which = what;
            for (int piece : new int[] {-1, 1, 40, MIN, MAX}) {
                check.isNone("told(" + piece + ", " + what + ")", PieceEdgeTest::passed, h -> h.told(piece, which));
            }
        }
        check.isNone("told(40, 0) of 40", () -> withPieces(40), h -> h.told(40, 0));
        check.same("told(39, 0) of 40", withPieces(40).told(39, 0), 17);
        check.isNone("told(0, 0) of none", () -> Check.houseOf(4, 3), h -> h.told(0, 0));
    }
}
