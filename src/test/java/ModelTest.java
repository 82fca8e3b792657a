import java.util.NoSuchElementException;
import java.util.Random;

/** All promises: runs of 512 drawn calls, each answer held against the model's. */
public final class ModelTest {
    private static final int RUNS = 1500;
    private static final int CALLS = 512;
    private static final int THROWN = -999;
    private static final int NONE_KNOWN = GuildHouse.NONE;
    private static final String[] SCRAPS = {
        "y>0", "d>50", "w<9", "l>1", "f>99", "m=0", "k=1", "d<200", "&", "|", "(", ")", " ", "d", "=",
        "7", "12", "&(", "|(", ")&", ")|", "k=0", "y<1", "(((((", "99999", "x", "\u00e9"};

    private static final int[] STRANGE = {
        Integer.MIN_VALUE, Integer.MIN_VALUE + 1, -20001, -256, -2, -1, 0, 30, 100, 120, 20000, 20001, 65536,
        1 << 24, Integer.MAX_VALUE - 20000, Integer.MAX_VALUE - 1, Integer.MAX_VALUE};

    private static final Check check = new Check("ModelTest");

    private final Random random;
    private final GuildHouse house = new GuildHouse();
    private final Model model = new Model();
    private final StringBuilder log = new StringBuilder();
    private final int crowd;
    private final int stride;
    private final int oftenest;
    private String call = "";
    private int now = 0;

    private ModelTest(long seed) {
        random = new Random(seed);
        crowd = 2 + random.nextInt(12);
        stride = 1 + random.nextInt(random.nextBoolean() ? 40 : 400);
        oftenest = random.nextInt(100);
    }

    public static void main(String[] args) {
        for (int run = 0; run < RUNS; run++) {
            if (!new ModelTest(run).run()) {
                System.out.println("in the run drawn by " + run);
                break;
            }
        }
        check.finish();
    }

    private boolean run() {
        for (int i = 0; i < CALLS; i++) {
            long[] answers = i < 6 ? asPerson(NONE_KNOWN, NONE_KNOWN) : drawnCall();
            log.append(call).append(" -> ").append(answers[1]).append('\n');
            check.same(call, answers[0], answers[1]);
            if (answers[0] != answers[1]) {
                System.out.println(log);
                return false;
            }
        }
        return true;
    }

    /** In every other run one kind of call comes so often that its limit is reached. */
    private long[] drawnCall() {
        boolean often = stride % 2 == 0 && random.nextBoolean();
        int kind = often ? oftenest : random.nextInt(100);
        if (kind < 4) {
            return asPerson(orNone(who()), orNone(who()));
        }
        if (kind < 8) {
            int person = who();
            call = "master(" + person + ")";
            return both(house.master(person), model.master(person));
        }
        if (kind < 20) {
            return lifeCall(kind);
        }
        if (kind < 42) {
            return textCall(kind);
        }
        if (kind < 60) {
            return questionCall(kind);
        }
        if (kind < 78) {
            return pieceCall(kind);
        }
        return shopCall(kind);
    }

    private long[] lifeCall(int kind) {
        if (kind < 10) {
            int master = who();
            int heir = orNone(who());
            call = "death(" + master + ", " + heir + ")";
            return both(house.death(master, heir), model.death(master, heir));
        }
        if (kind < 14) {
            int n = orStrange(random.nextInt(20) == 0 ? random.nextInt(20100) - 50 : random.nextInt(stride));
            call = "days(" + n + ")";
            long[] answers = {house.days(n), model.days(n)};
            now = model.count(0);
            return answers;
        }
        if (kind < 18) {
            int person = who();
            int master = orNone(who());
            int from = day();
            int to = random.nextInt(4) == 0 ? day() : from + random.nextInt(2 * stride + 1);
            to = random.nextInt(3) == 0 ? now : to;
            call = "term(" + person + ", " + master + ", " + from + ", " + to + ")";
            return new long[] {house.term(person, master, from, to), model.term(person, master, from, to)};
        }
        if (kind < 19) {
            int term = orStrange(random.nextInt(model.count(3) + 2) - 1);
            call = "back(" + term + ")";
            return both(house.back(term), model.back(term));
        }
        int person = who();
        int letters = orStrange(random.nextInt(12) - 1);
        int coins = orStrange(random.nextInt(30) == 0 ? random.nextInt(3) + 9998 : random.nextInt(200) - 1);
        call = "give(" + person + ", " + letters + ", " + coins + ")";
        return both(house.give(person, letters, coins), model.give(person, letters, coins));
    }

    private long[] textCall(int kind) {
        if (kind < 33) {
            String scrap = SCRAPS[random.nextInt(SCRAPS.length)];
            int bytes = random.nextInt(60) == 0 ? random.nextInt() : 0;
            for (int i = 0; i < scrap.length() && i < 4; i++) {
                bytes = bytes << 8 | scrap.charAt(i);
            }
            call = "feed(" + bytes + ")";
            return new long[] {house.feed(bytes), model.feed(bytes)};
        }
        if (kind < 36) {
            int fault = model.fault();
            int n = orStrange(random.nextInt(4) == 0 ? random.nextInt(model.count(6) + 3) - 1 : Math.max(fault, 0));
            call = "end(" + n + ")";
            return both(house.end(n), model.end(n));
        }
        if (kind < 39) {
            call = "fault()";
            return new long[] {house.fault(), model.fault()};
        }
        int from = day();
        call = "statute(" + from + ")";
        return new long[] {house.statute(from), model.statute(from)};
    }

    private long[] questionCall(int kind) {
        int d = day();
        int q = random.nextInt(3) == 0 ? day() : now;
        int person = who();
        if (kind < 44) {
            call = "force(" + d + ", " + q + ")";
            return new long[] {house.force(d, q), model.force(d, q)};
        }
        if (kind < 52) {
            int what = orStrange(random.nextInt(9) - 1);
            call = "value(" + person + ", " + what + ", " + d + ", " + q + ")";
            return new long[] {house.value(person, what, d, q), model.value(person, what, d, q)};
        }
        if (kind < 56) {
            call = "may(" + person + ", " + d + ", " + q + ")";
            return new long[] {house.may(person, d, q), model.may(person, d, q)};
        }
        if (kind < 57) {
            int other = who();
            call = "kin(" + person + ", " + other + ")";
            return both(house.kin(person, other), model.kin(person, other));
        }
        if (kind < 58) {
            return lookCall();
        }
        int what = orStrange(random.nextInt(10) - 1);
        call = "count(" + what + ")";
        return new long[] {house.count(what), model.count(what)};
    }

    private long[] lookCall() {
        int term = orStrange(random.nextInt(model.count(3) + 2) - 1);
        int what = orStrange(random.nextInt(8) - 1);
        call = "look(" + term + ", " + what + ")";
        long[] answers = {THROWN, THROWN};
        try {
            answers[0] = house.look(term, what);
        } catch (NoSuchElementException e) {
            call += " throws";
        }
        try {
            answers[1] = model.look(term, what);
        } catch (NoSuchElementException e) {
            call += " as due";
        }
        return answers;
    }

    private long[] pieceCall(int kind) {
        int piece = orStrange(random.nextInt(model.count(5) + 2) - 1);
        if (kind < 64) {
            int person = who();
            long seed = random.nextInt(4) == 0 ? orStrange(random.nextInt(9) - 4) : random.nextLong();
            call = "piece(" + person + ", " + seed + ")";
            return new long[] {house.piece(person, seed), model.piece(person, seed)};
        }
        if (kind < 66) {
            int i = orStrange(random.nextInt(5) - 1);
            call = "judge(" + piece + ", " + i + ")";
            return new long[] {house.judge(piece, i), model.judge(piece, i)};
        }
        if (kind < 74) {
            return markCall();
        }
        int what = orStrange(random.nextInt(8) - 1);
        call = "told(" + piece + ", " + what + ")";
        return new long[] {house.told(piece, what), model.told(piece, what)};
    }

    /** Gives most of the points that are missing, so that pieces are done; the last by chance. */
    private long[] markCall() {
        int last = model.count(5) - 1;
        int piece = orStrange(random.nextInt(3) == 0 ? random.nextInt(last + 3) - 1 : last);
        for (int i = 0; i < 12; i++) {
            int points = 3 + random.nextInt(7);
            if (random.nextInt(3) != 0 && i < 11) {
                check.same("mark", house.mark(piece, i % 3, i / 3, points) ? 1 : 0,
                        model.mark(piece, i % 3, i / 3, points) ? 1 : 0);
                log.append("mark(" + piece + ", " + i % 3 + ", " + i / 3 + ", " + points + ")\n");
            }
        }
        int i = orStrange(random.nextInt(16) == 0 ? random.nextInt(5) - 1 : random.nextInt(3));
        int part = orStrange(random.nextInt(16) == 0 ? random.nextInt(6) - 1 : random.nextInt(4));
        int points = orStrange(random.nextInt(13) - 1);
        call = "mark(" + piece + ", " + i + ", " + part + ", " + points + ")";
        return both(house.mark(piece, i, part, points), model.mark(piece, i, part, points));
    }

    private long[] shopCall(int kind) {
        int master = who();
        int person = who();
        if (kind < 86) {
            call = "hire(" + master + ", " + person + ")";
            return both(house.hire(master, person), model.hire(master, person));
        }
        if (kind < 88) {
            call = "leave(" + person + ")";
            return both(house.leave(person), model.leave(person));
        }
        if (kind < 90) {
            int n = orStrange(random.nextInt(8) == 0 ? random.nextInt(35) - 2 : random.nextInt(5));
            int from = day();
            call = "number(" + n + ", " + from + ")";
            return both(house.number(n, from), model.number(n, from));
        }
        if (kind < 94) {
            call = "hands(" + master + ")";
            return new long[] {house.hands(master), model.hands(master)};
        }
        call = "lawful(" + master + ")";
        return new long[] {house.lawful(master), model.lawful(master)};
    }

    private long[] asPerson(int parent, int other) {
        call = "person(" + parent + ", " + other + ")";
        return new long[] {house.person(parent, other), model.person(parent, other)};
    }

    private static long[] both(boolean got, boolean due) {
        return new long[] {got ? 1 : 0, due ? 1 : 0};
    }

    private int who() {
        return orStrange(random.nextInt(40) == 0 ? random.nextInt(34) - 2 : random.nextInt(crowd));
    }

    private int orNone(int person) {
        return random.nextInt(3) == 0 ? GuildHouse.NONE : person;
    }

    private int day() {
        if (random.nextInt(40) == 0) {
            return orStrange(random.nextInt(20100) - 50);
        }
        return orStrange(random.nextInt(2) == 0 ? now : random.nextInt(now + 5) - 1);
    }

    /** Now and then a number far outside, or just at a limit, in place of the drawn one. */
    private int orStrange(int drawn) {
        if (random.nextInt(60) != 0) {
            return drawn;
        }
        return random.nextInt(4) == 0 ? random.nextInt() : STRANGE[random.nextInt(STRANGE.length)];
    }
}
