import java.util.ArrayList;
import java.util.List;

/** Promises 16 to 19: piece, judge, mark, told. */
public final class PieceTest {
    private static final int NONE = GuildHouse.NONE;
    private static final Check check = new Check("PieceTest");

    public static void main(String[] args) {
        piece();
        manyPieces();
        whoJudges();
        draw();
        mark();
        told();
        parts();
        passing();
        theDead();
        check.finish();
    }

    private static void piece() {
        GuildHouse house = Check.houseOf(6, 3);
        check.same("piece(-1)", house.piece(-1, 1L), NONE);
        check.same("piece(6)", house.piece(6, 1L), NONE);
        check.same("piece(master)", house.piece(0, 1L), NONE);
        Check.statute(house, "l>0", 0);
        check.same("may is 0", house.piece(3, 1L), NONE);
        check.same("refused: no piece", house.count(5), 0);
        house.give(3, 1, 0);
        check.same("piece(3)", house.piece(3, 1L), 0);
        check.same("one is not done", house.piece(3, 1L), NONE);
        house.give(4, 1, 0);
        check.same("piece of another", house.piece(4, 1L), 1);
        Check.markAll(house, 0, 0, 0, 0, 0);
        check.same("again, as the first is done", house.piece(3, 1L), 2);
        house.days(10);
        house.term(5, 4, 0, 5);
        check.same("the statute was in force on the first day", house.piece(5, 1L), NONE);
        Check.statute(house, "l>5", 5);
        house.term(4, 5, 0, 5);
        Check.markAll(house, 1, 0, 0, 0, 0);
        check.same("may is 2", house.piece(4, 1L), 3);
        house.death(0, NONE);
        house.give(5, 9, 0);
        check.same("fewer than three judges", house.piece(5, 1L), NONE);
        house.master(3);
        check.same("a master meanwhile", house.piece(3, 1L), NONE);
        check.same("three again", house.piece(5, 1L), 4);
        check.same("count(5)", house.count(5), 5);
    }

    private static void manyPieces() {
        GuildHouse house = Check.houseOf(30, 3);
        for (int i = 0; i < 40; i++) {
            check.same("piece", house.piece(3 + i % 27, i), i);
            if (i < 13) {
                Check.markAll(house, i, 9, 9, 9, 4);
            }
        }
        house.mark(39, 0, 0, 5);
        for (int i = 0; i < 27; i++) {
            check.same("owner", house.told(i, 0), 3 + i);
        }
        Check.markAll(house, 39, 1, 1, 1, 1);
        check.same("the 41st", house.piece(house.told(39, 0), 1L), NONE);
        check.same("count(5)", house.count(5), 40);
        check.same("told(40)", house.told(40, 0), NONE);
        Check.markAll(house, 38, 9, 8, 7, 6);
        check.same("m among 40 pieces", house.value(house.told(38, 0), 4, 0, 0), 7);
        check.same("m of a piece refused", house.value(house.told(39, 0), 4, 0, 0), 0);

        GuildHouse busy = Check.houseOf(5, 4);
        for (int i = 0; i < 100; i++) {
            busy.term(4, i < 99 ? NONE : 2, 0, 0);
        }
        check.same("a judge was served in the last of 100", judgesOf(busy, busy.piece(4, 1L)), 1 | 2 | 8);
    }

    /** With just three who fit, the judges are those, in whatever order. */
    private static void whoJudges() {
        GuildHouse house = Check.houseOf(3, 3);
        house.person(0, 1);
        house.person(1, NONE);
        house.person(3, NONE);
        house.master(4);
        house.master(5);
        check.same("of 3: not parents, sibling, child", house.piece(3, 5L), NONE);
        house.person(NONE, NONE);
        house.master(6);
        check.same("two are too few", house.piece(3, 5L), NONE);
        house.person(5, NONE);
        house.master(7);
        check.same("a grandchild is no kin", judgesOf(house, house.piece(3, 5L)), 1 << 2 | 1 << 6 | 1 << 7);

        GuildHouse served = Check.houseOf(6, 4);
        served.days(10);
        served.term(4, 1, 0, 0);
        served.term(4, NONE, 0, 9);
        served.term(4, 5, 0, 9);
        served.term(5, 2, 0, 9);
        check.same("not who was served", judgesOf(served, served.piece(4, 9L)), 1 | 4 | 8);
        served.back(0);
        served.term(5, 0, 0, 9);
        served.back(3);
        check.same("served, taken back", judgesOf(served, served.piece(5, 9L)), 2 | 4 | 8);
        Check.markAll(served, 0, 0, 0, 0, 0);
        served.death(3, NONE);
        check.same("the dead do not judge", judgesOf(served, served.piece(4, 9L)), 1 | 2 | 4);
    }

    private static int judgesOf(GuildHouse house, int piece) {
        if (piece == NONE) {
            return NONE;
        }
        int all = 0;
        for (int i = 0; i < 3; i++) {
            all |= 1 << house.judge(piece, i);
        }
        return all;
    }

    private static void draw() {
        long[] seeds = {0, 1, -1, 7, 123456789L, Long.MAX_VALUE, Long.MIN_VALUE, 1L << 33, -77777777777L};
        for (int masters = 3; masters < 29; masters++) {
            for (long seed : seeds) {
                GuildHouse house = Check.houseOf(masters + 1, masters);
                house.piece(masters, seed);
                List<Integer> bench = new ArrayList<>();
                for (int i = 0; i < masters; i++) {
                    bench.add(i);
                }
                long x = seed;
                for (int i = 0; i < 3; i++) {
                    x = x * 6364136223846793005L + 1442695040888963407L;
                    int due = bench.remove((int) ((x >>> 33) % bench.size()));
                    check.same("judge " + i + " of " + masters + " by " + seed, house.judge(0, i), due);
                }
            }
        }
        drawnBy(0L, 10, 7, 3, 1);
        drawnBy(7L, 10, 8, 9, 1);
        drawnBy(-1L, 5, 3, 4, 1);
        drawnBy(Long.MAX_VALUE, 29, 7, 24, 19);
        drawnBy(Long.MIN_VALUE, 3, 0, 1, 2);
        GuildHouse house = drawnBy(123456789012345L, 17, 6, 15, 3);
        check.same("judge(0, -1)", house.judge(0, -1), NONE);
        check.same("judge(0, 3)", house.judge(0, 3), NONE);
        check.same("judge(1, 0)", house.judge(1, 0), NONE);
        check.same("judge(-1, 2)", house.judge(-1, 2), NONE);
    }

    private static GuildHouse drawnBy(long seed, int masters, int... due) {
        GuildHouse house = Check.houseOf(masters + 1, masters);
        house.piece(masters, seed);
        for (int i = 0; i < 3; i++) {
            check.same("judge " + i + " of " + masters + " by " + seed, house.judge(0, i), due[i]);
        }
        return house;
    }

    private static void mark() {
        GuildHouse house = Check.houseOf(5, 3);
        house.piece(3, 1L);
        check.no("mark(-1)", house.mark(-1, 0, 0, 5));
        check.no("mark(1)", house.mark(1, 0, 0, 5));
        check.no("judge -1", house.mark(0, -1, 0, 5));
        check.no("judge 3", house.mark(0, 3, 0, 5));
        check.no("part -1", house.mark(0, 0, -1, 5));
        check.no("part 4", house.mark(0, 0, 4, 5));
        check.no("points -1", house.mark(0, 0, 0, -1));
        check.no("points 11", house.mark(0, 0, 0, 11));
        for (int i = 0; i < 3; i++) {
            for (int part = 0; part < 4; part++) {
                check.same("not done", house.told(0, 1), 0);
                check.yes("points 0", house.mark(0, i, part, 0));
                check.yes("told again", i == 2 && part == 3 || house.mark(0, i, part, 10));
            }
        }
        check.same("done", house.told(0, 1), 1);
        check.same("mark: 110 by 12, cut", house.told(0, 2), 9);
        check.same("passed: 20 in the last part", house.told(0, 3), 1);
        check.no("it is done", house.mark(0, 0, 0, 10));
        check.no("it is done, last", house.mark(0, 2, 3, 10));
        check.same("refused: the mark stays", house.told(0, 2), 9);
    }

    private static void told() {
        GuildHouse house = Check.houseOf(5, 3);
        house.piece(4, 1L);
        int[] open = {4, 0, NONE, 0, NONE, NONE};
        int[] refused = {4, 1, 5, 0, 2, 3};
        int[] passed = {4, 1, 8, 1, NONE, 5};
        toldIs(house, 0, open);
        house.days(2);
        house.mark(0, 0, 0, 8);
        toldIs(house, 0, open);
        house.days(1);
        Check.markAll(house, 0, 8, 7, 4, 4);
        house.days(2);
        toldIs(house, 0, refused);
        house.piece(4, 1L);
        Check.markAll(house, 1, 8, 8, 8, 8);
        toldIs(house, 1, passed);
        toldIs(house, 0, refused);
    }

    private static void toldIs(GuildHouse house, int piece, int[] due) {
        for (int what = 0; what < 6; what++) {
            check.same("told(" + piece + ", " + what + ")", house.told(piece, what), due[what]);
            check.same("told of none", house.told(piece + 2, what), NONE);
            check.same("told(-1)", house.told(-1, what), NONE);
        }
        check.same("told what -1", house.told(piece, -1), NONE);
        check.same("told what 6", house.told(piece, 6), NONE);
    }

    /** A part passes with 15, not with 14; the refused part is the first with less. */
    private static void parts() {
        for (int low = 0; low < 16; low++) {
            GuildHouse house = Check.houseOf(4, 3);
            house.piece(3, low);
            int first = NONE;
            for (int part = 3; part >= 0; part--) {
                boolean less = (low >> part & 1) == 1;
                house.mark(0, 0, part, less ? 4 : 5);
                house.mark(0, 1, part, 0);
                house.mark(0, 2, part, 10);
                first = less ? part : first;
            }
            check.same("refused part", house.told(0, 4), first);
            check.same("passed", house.told(0, 3), low == 0 ? 1 : 0);
            check.same("mark", house.told(0, 2), low == 0 ? 5 : 4);
            check.same("masters", house.count(2), low == 0 ? 4 : 3);
        }
    }

    private static void passing() {
        GuildHouse house = Check.houseOf(4, 3);
        house.person(3, NONE);
        house.days(5);
        house.piece(3, 1L);
        house.days(5);
        check.no("no master before", house.hire(3, 4));
        Check.markAll(house, 0, 5, 5, 5, 5);
        check.same("a master then", house.count(2), 4);
        check.no("master() of it", house.master(3));
        check.same("no piece of a master", house.piece(3, 1L), NONE);
        check.same("from that day on", house.value(4, 5, 10, 10), 1);
        check.same("not before", house.value(4, 5, 9, 10), 0);

        GuildHouse told = Check.houseOf(4, 3);
        told.person(3, NONE);
        told.piece(3, 1L);
        told.days(5);
        told.master(3);
        told.days(5);
        Check.markAll(told, 0, 5, 5, 5, 5);
        check.same("the earlier day of a master stays", told.value(4, 5, 5, 10), 1);
        check.same("masters counted once", told.count(2), 4);
    }

    private static void theDead() {
        GuildHouse house = Check.houseOf(4, 3);
        house.piece(3, 1L);
        house.death(house.judge(0, 1), NONE);
        house.master(3);
        house.death(3, NONE);
        Check.markAll(house, 0, 5, 5, 5, 5);
        check.same("the piece of the dead is done", house.told(0, 3), 1);
        check.same("the dead are no masters", house.count(2), 2);
        check.same("hands of the dead", house.hands(3), NONE);
    }
}
