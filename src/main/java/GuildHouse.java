import java.util.NoSuchElementException;

/**
 * The house of a guild: people and kin, terms served, statutes in force, pieces and their judges,
 * and shops with so many hands, all of it as known on any day.
 *
 * What each call answers stands in the document as promises 1 to 27; the words used here
 * (served days, quarrels, in force, ...) are the document's terms.
 */
public final class GuildHouse {
    public static final int NONE = -1;

    private static final int LAST_DAY = 20000;
    private static final int MOST_PEOPLE = 30;
    private static final int MOST_TERMS = 100;
    private static final int MOST_GIFTS = 100;
    private static final int MOST_EDICTS = 30;
    private static final int MOST_PIECES = 40;
    private static final int MOST_SIGNS = 120;

    private static final int MOST_LETTERS = 9;
    private static final int MOST_COINS = 9999;
    private static final int MOST_NUMBER = 30;
    private static final int NUMBER_UNTOLD = 3;

    private static final int SERVED_DAYS = 0;
    private static final int ROAD_DAYS = 1;
    private static final int LETTERS = 2;
    private static final int FEES = 3;
    private static final int MARK = 4;
    private static final int CHILD_OF_MASTER = 5;
    private static final int QUARRELS = 6;
    private static final int VALUES_IN_TEXTS = 6;

    private static final int MAY_NOT = 0;
    private static final int MAY_BY_THIS = 1;
    private static final int MAY_BY_OLDER = 2;

    private final People people;
    private final Terms terms;
    private final Gifts gifts;
    private final Draft draft;
    private final Reading reading;
    private final Statutes statutes;
    private final Weighing weighing;
    private final Edicts numbers;
    private final int[] numberTold;
    private final Pieces pieces;
    private final int[] bench;
    private int now;

    public GuildHouse() {
        people = new People();
        terms = new Terms();
        gifts = new Gifts();
        draft = new Draft();
        reading = new Reading();
        statutes = new Statutes();
        weighing = new Weighing();
        numbers = new Edicts();
        numberTold = new int[MOST_EDICTS];
        pieces = new Pieces();
        bench = new int[MOST_PEOPLE];
        now = 0;
    }

    public int person(int parent, int other) {
        if (people.isFull() || !people.isParent(parent) || !people.isParent(other)) {
            return NONE;
        }
        return people.add(parent, other);
    }

    public boolean master(int person) {
        if (!people.isAlive(person) || people.isMaster(person)) {
            return false;
        }
        people.raise(person, now);
        return true;
    }

    public boolean death(int master, int heir) {
        if (!people.isMaster(master) || master == heir) {
            return false;
        }
        if (heir != NONE && !people.isMaster(heir)) {
            return false;
        }
        people.bury(master, heir, now);
        return true;
    }

    public int days(int n) {
        if (!isDay(n) || now + n > LAST_DAY) {
            return NONE;
        }
        now += n;
        return now;
    }

    public int term(int person, int master, int from, int to) {
        if (!people.has(person) || person == master || terms.isFull()) {
            return NONE;
        }
        if (master != NONE && !people.has(master)) {
            return NONE;
        }
        if (from < 0 || from > to || to > now) {
            return NONE;
        }
        return terms.add(person, master, from, to, now);
    }

    public boolean back(int term) {
        if (!terms.has(term) || terms.isTakenBack(term)) {
            return false;
        }
        terms.takeBack(term, now);
        return true;
    }

    public boolean give(int person, int letters, int coins) {
        if (!people.isAlive(person) || gifts.isFull()) {
            return false;
        }
        if (letters < 0 || letters > MOST_LETTERS || coins < 0 || coins > MOST_COINS) {
            return false;
        }
        gifts.add(person, letters, coins, now);
        return true;
    }

    public int feed(int bytes) {
        if (!draft.hasRoomFor(bytes)) {
            return NONE;
        }
        draft.add(bytes);
        return draft.length;
    }

    public boolean end(int n) {
        if (n < 0 || n > draft.length) {
            return false;
        }
        draft.length = n;
        return true;
    }

    public int fault() {
        return reading.firstFault(draft.signs, draft.length);
    }

    public int statute(int from) {
        if (!isDay(from) || statutes.edicts.isFull() || fault() != NONE) {
            return NONE;
        }
        int number = statutes.add(draft, from, now);
        draft.length = 0;
        return number;
    }

    public int force(int d, int q) {
        return isAskable(d, q) ? statutes.edicts.inForce(d, q) : NONE;
    }

    public int value(int person, int what, int d, int q) {
        if (!people.has(person) || !isAskable(d, q)) {
            return NONE;
        }
        return valueOf(person, what, d, q);
    }

    public int may(int person, int d, int q) {
        if (!people.has(person) || !isAskable(d, q)) {
            return NONE;
        }
        return mayCome(person, d, q);
    }

    public int piece(int person, long seed) {
        if (!people.isAlive(person) || people.isMaster(person)) {
            return NONE;
        }
        if (pieces.isFull() || pieces.hasOpen(person) || mayCome(person, now, now) == MAY_NOT) {
            return NONE;
        }
        int fit = seatFitJudges(person);
        if (fit < Pieces.JUDGES) {
            return NONE;
        }
        return pieces.add(person, bench, fit, seed);
    }

    public int judge(int piece, int i) {
        return pieces.has(piece) && Pieces.isJudge(i) ? pieces.judgeOf(piece, i) : NONE;
    }

    public boolean mark(int piece, int i, int part, int points) {
        if (!pieces.has(piece) || !Pieces.isJudge(i) || !Pieces.isPart(part)) {
            return false;
        }
        if (points < 0 || points > Pieces.MOST_POINTS || pieces.isDone(piece)) {
            return false;
        }
        pieces.setPoints(piece, i, part, points, now);
        if (pieces.isPassed(piece)) {
            people.raise(pieces.owner[piece], now);
        }
        return true;
    }

    public int told(int piece, int what) {
        if (!pieces.has(piece)) {
            return NONE;
        }
        switch (what) {
            case 0:
                return pieces.owner[piece];
            case 1:
                return pieces.isDone(piece) ? 1 : 0;
            case 2:
                return pieces.isDone(piece) ? pieces.markOf(piece) : NONE;
            case 3:
                return pieces.isPassed(piece) ? 1 : 0;
            case 4:
                return pieces.isDone(piece) ? pieces.refusedPart(piece) : NONE;
            case 5:
                return pieces.doneOn[piece];
            default:
                return NONE;
        }
    }

    public boolean hire(int master, int person) {
        if (!people.isMaster(master) || !people.isAlive(person) || master == person) {
            return false;
        }
        if (people.shop[person] == master) {
            return false;
        }
        people.shop[person] = master;
        return true;
    }

    public boolean leave(int person) {
        if (!people.has(person) || people.shop[person] == NONE) {
            return false;
        }
        people.shop[person] = NONE;
        return true;
    }

    public boolean number(int n, int from) {
        if (n < 0 || n > MOST_NUMBER || !isDay(from) || numbers.isFull()) {
            return false;
        }
        numberTold[numbers.add(from, now)] = n;
        return true;
    }

    public int hands(int master) {
        return people.isMaster(master) ? people.handsOf(master) : NONE;
    }

    public int lawful(int master) {
        if (!people.isMaster(master)) {
            return NONE;
        }
        boolean few = people.handsOf(master) <= numberNow();
        return few || now <= people.excessUntil[master] ? 1 : 0;
    }

    public boolean kin(int one, int other) {
        return people.has(one) && people.has(other) && people.areKin(one, other);
    }

    public int look(int term, int what) throws NoSuchElementException {
        if (!terms.has(term)) {
            throw new NoSuchElementException("no such term");
        }
        switch (what) {
            case 0:
                return terms.servant[term];
            case 1:
                return terms.master[term];
            case 2:
                return terms.from[term];
            case 3:
                return terms.to[term];
            case 4:
                return terms.toldOn[term];
            case 5:
                return terms.backOn[term];
            default:
                throw new NoSuchElementException("nothing such is known of a term");
        }
    }

    public int count(int what) {
        switch (what) {
            case 0:
                return now;
            case 1:
                return people.size;
            case 2:
                return people.masters();
            case 3:
                return terms.size;
            case 4:
                return statutes.edicts.size;
            case 5:
                return pieces.size;
            case 6:
                return draft.length;
            case 7:
                return people.allHands();
            default:
                return NONE;
        }
    }

    private static boolean isDay(int day) {
        return day >= 0 && day <= LAST_DAY;
    }

    private boolean isAskable(int d, int q) {
        return isDay(d) && q >= 0 && q <= now;
    }

    private int valueOf(int person, int what, int d, int q) {
        int both = Math.min(d, q);
        switch (what) {
            case SERVED_DAYS:
                return terms.daysOf(Terms.SERVED, person, d, q);
            case ROAD_DAYS:
                return terms.daysOf(Terms.ON_ROAD, person, d, q);
            case LETTERS:
                return gifts.sum(gifts.letters, person, both);
            case FEES:
                return gifts.sum(gifts.coins, person, both);
            case MARK:
                return pieces.latestMark(person, both);
            case CHILD_OF_MASTER:
                return people.isChildOfMaster(person, both) ? 1 : 0;
            case QUARRELS:
                return terms.daysOf(Terms.IN_QUARREL, person, d, q);
            default:
                return NONE;
        }
    }

    private int mayCome(int person, int d, int q) {
        int current = statutes.edicts.inForce(d, q);
        if (current == NONE) {
            return MAY_BY_THIS;
        }
        for (int what = 0; what < VALUES_IN_TEXTS; what++) {
            weighing.values[what] = valueOf(person, what, d, q);
        }
        if (statutes.holds(current, weighing)) {
            return MAY_BY_THIS;
        }
        int first = terms.firstServedDay(person, d, q);
        if (first == NONE) {
            return MAY_NOT;
        }
        int older = statutes.edicts.inForce(first, q);
        return older == NONE || statutes.holds(older, weighing) ? MAY_BY_OLDER : MAY_NOT;
    }

    /** Puts all who may judge a person on the bench, by their numbers, and tells how many. */
    private int seatFitJudges(int person) {
        int fit = 0;
        for (int one = 0; one < people.size; one++) {
            if (people.isMaster(one) && !people.areKin(one, person)
                    && !terms.hasServed(person, one, now)) {
                bench[fit] = one;
                fit++;
            }
        }
        return fit;
    }

    private int numberNow() {
        int current = numbers.inForce(now, now);
        return current == NONE ? NUMBER_UNTOLD : numberTold[current];
    }

    /** All people ever told, the dead too, with the shops in which they are hands. */
    private static final class People {
        static final int EXCESS_DAYS = 100;

        final int[] parent = new int[MOST_PEOPLE];
        final int[] other = new int[MOST_PEOPLE];
        final int[] masterSince = new int[MOST_PEOPLE];
        final int[] diedOn = new int[MOST_PEOPLE];
        final int[] shop = new int[MOST_PEOPLE];
        final int[] excessUntil = new int[MOST_PEOPLE];
        int size = 0;

        boolean isFull() {
            return size >= MOST_PEOPLE;
        }

        boolean has(int person) {
            return person >= 0 && person < size;
        }

        boolean isParent(int one) {
            return one == NONE || has(one);
        }

        boolean isAlive(int person) {
            return has(person) && diedOn[person] == NONE;
        }

        boolean isMaster(int person) {
            return isAlive(person) && masterSince[person] != NONE;
        }

        int add(int oneParent, int otherParent) {
            int person = size;
            parent[person] = oneParent;
            other[person] = otherParent;
            masterSince[person] = NONE;
            diedOn[person] = NONE;
            shop[person] = NONE;
            excessUntil[person] = NONE;
            size++;
            return person;
        }

        /** Who was a master earlier keeps that day: a piece may pass after its owner became one. */
        void raise(int person, int day) {
            if (masterSince[person] == NONE) {
                masterSince[person] = day;
            }
        }

        void bury(int master, int heir, int day) {
            diedOn[master] = day;
            shop[master] = NONE;
            for (int hand = 0; hand < size; hand++) {
                if (shop[hand] == master) {
                    shop[hand] = hand == heir ? NONE : heir;
                }
            }
            if (heir != NONE) {
                excessUntil[heir] = day + EXCESS_DAYS;
            }
        }

        boolean areKin(int one, int two) {
            return one == two || isParentOf(one, two) || isParentOf(two, one)
                    || shareParent(parent[one], two) || shareParent(other[one], two);
        }

        private boolean isParentOf(int one, int child) {
            return parent[child] == one || other[child] == one;
        }

        private boolean shareParent(int parentOfOne, int two) {
            return parentOfOne != NONE && isParentOf(parentOfOne, two);
        }

        boolean isChildOfMaster(int person, int day) {
            return wasMasterBy(parent[person], day) || wasMasterBy(other[person], day);
        }

        /** A master who died since was one by then all the same. */
        private boolean wasMasterBy(int person, int day) {
            return has(person) && masterSince[person] != NONE && masterSince[person] <= day;
        }

        int masters() {
            int found = 0;
            for (int person = 0; person < size; person++) {
                if (isMaster(person)) {
                    found++;
                }
            }
            return found;
        }

        int handsOf(int master) {
            int found = 0;
            for (int person = 0; person < size; person++) {
                if (shop[person] == master) {
                    found++;
                }
            }
            return found;
        }

        int allHands() {
            return size - handsOf(NONE);
        }
    }

    /** Terms of service and on the road, with the days on which they were told and taken back. */
    private static final class Terms {
        static final int SERVED = 0;
        static final int ON_ROAD = 1;
        static final int IN_QUARREL = 2;

        /** Each term begins and ends one stretch of days at most. */
        private static final int MOST_STRETCHES = 2 * MOST_TERMS + 1;

        final int[] servant = new int[MOST_TERMS];
        final int[] master = new int[MOST_TERMS];
        final int[] from = new int[MOST_TERMS];
        final int[] to = new int[MOST_TERMS];
        final int[] toldOn = new int[MOST_TERMS];
        final int[] backOn = new int[MOST_TERMS];
        int size = 0;

        private final int[] picked = new int[MOST_TERMS];
        private int pickedSize = 0;

        boolean isFull() {
            return size >= MOST_TERMS;
        }

        boolean has(int term) {
            return term >= 0 && term < size;
        }

        boolean isTakenBack(int term) {
            return backOn[term] != NONE;
        }

        int add(int person, int with, int firstDay, int lastDay, int today) {
            int term = size;
            servant[term] = person;
            master[term] = with;
            from[term] = firstDay;
            to[term] = lastDay;
            toldOn[term] = today;
            backOn[term] = NONE;
            size++;
            return term;
        }

        void takeBack(int term, int today) {
            backOn[term] = today;
        }

        private boolean isKnown(int term, int q) {
            return toldOn[term] <= q && (backOn[term] == NONE || backOn[term] > q);
        }

        boolean hasServed(int person, int with, int q) {
            for (int term = 0; term < size; term++) {
                if (servant[term] == person && master[term] == with && isKnown(term, q)) {
                    return true;
                }
            }
            return false;
        }

        int firstServedDay(int person, int d, int q) {
            int first = NONE;
            pick(person, d, q);
            for (int i = 0; i < pickedSize; i++) {
                int term = picked[i];
                if (master[term] != NONE && (first == NONE || from[term] < first)) {
                    first = from[term];
                }
            }
            return first;
        }

        /** Counts by stretches in which no term begins or ends, so that all days of one are alike. */
        int daysOf(int kind, int person, int d, int q) {
            int found = 0;
            int day = 0;
            pick(person, d, q);
            for (int stretch = 0; stretch < MOST_STRETCHES && day <= d; stretch++) {
                int next = nextChange(day, d);
                if (isOfKind(kind, day)) {
                    found += next - day;
                }
                day = next;
            }
            return found;
        }

        /** Keeps the person's terms that are known in q and begin by d. */
        private void pick(int person, int d, int q) {
            pickedSize = 0;
            for (int term = 0; term < size; term++) {
                if (servant[term] == person && from[term] <= d && isKnown(term, q)) {
                    picked[pickedSize] = term;
                    pickedSize++;
                }
            }
        }

        private int nextChange(int day, int d) {
            int next = d + 1;
            for (int i = 0; i < pickedSize; i++) {
                int term = picked[i];
                if (from[term] > day) {
                    next = Math.min(next, from[term]);
                } else if (to[term] >= day) {
                    next = Math.min(next, to[term] + 1);
                }
            }
            return next;
        }

        private boolean isOfKind(int kind, int day) {
            int served = NONE;
            boolean quarrel = false;
            boolean road = false;
            for (int i = 0; i < pickedSize; i++) {
                int term = picked[i];
                if (from[term] > day || to[term] < day) {
                    continue;
                }
                if (master[term] == NONE) {
                    road = true;
                } else {
                    quarrel = quarrel || (served != NONE && served != master[term]);
                    served = master[term];
                }
            }
            if (kind == SERVED) {
                return served != NONE;
            }
            return kind == ON_ROAD ? road && served == NONE : quarrel;
        }
    }

    /** Letters and coins, each with the day on which they were told. */
    private static final class Gifts {
        final int[] giver = new int[MOST_GIFTS];
        final int[] letters = new int[MOST_GIFTS];
        final int[] coins = new int[MOST_GIFTS];
        final int[] toldOn = new int[MOST_GIFTS];
        int size = 0;

        boolean isFull() {
            return size >= MOST_GIFTS;
        }

        void add(int person, int moreLetters, int moreCoins, int today) {
            giver[size] = person;
            letters[size] = moreLetters;
            coins[size] = moreCoins;
            toldOn[size] = today;
            size++;
        }

        /** The sum of one of the two rows above, for a person up to a day. */
        int sum(int[] row, int person, int day) {
            int total = 0;
            for (int gift = 0; gift < size; gift++) {
                if (giver[gift] == person && toldOn[gift] <= day) {
                    total += row[gift];
                }
            }
            return total;
        }
    }

    /** The text that is being written and is no statute yet. */
    private static final class Draft {
        final char[] signs = new char[MOST_SIGNS];
        int length = 0;

        boolean hasRoomFor(int bytes) {
            int more = 0;
            for (int shift = 24; shift >= 0; shift -= 8) {
                if (byteOf(bytes, shift) != 0) {
                    more++;
                }
            }
            return length + more <= MOST_SIGNS;
        }

        void add(int bytes) {
            for (int shift = 24; shift >= 0; shift -= 8) {
                int sign = byteOf(bytes, shift);
                if (sign != 0 && length < MOST_SIGNS) {
                    signs[length] = (char) sign;
                    length++;
                }
            }
        }

        private static int byteOf(int bytes, int shift) {
            return (bytes >>> shift) & 255;
        }
    }

    /** Reads a text sign by sign and finds where no text can go on. */
    private static final class Reading {
        private static final int BEFORE_UNIT = 0;
        private static final int BEHIND_WORD = 1;
        private static final int BEFORE_NUMBER = 2;
        private static final int IN_NUMBER = 3;
        private static final int BEHIND_UNIT = 4;

        private static final int MOST_OPEN = 8;
        private static final int MOST_DIGITS = 5;

        private int place = BEFORE_UNIT;
        private int open = 0;
        private int digits = 0;

        int firstFault(char[] signs, int length) {
            place = BEFORE_UNIT;
            open = 0;
            digits = 0;
            for (int i = 0; i < length && i < signs.length; i++) {
                if (!goesOnWith(signs[i])) {
                    return i;
                }
            }
            return isWhole() ? NONE : length;
        }

        private boolean isWhole() {
            return open == 0 && (place == IN_NUMBER || place == BEHIND_UNIT);
        }

        private boolean goesOnWith(char sign) {
            if (sign == ' ') {
                place = place == IN_NUMBER ? BEHIND_UNIT : place;
                return true;
            }
            switch (place) {
                case BEFORE_UNIT:
                    return beginsUnit(sign);
                case BEHIND_WORD:
                    place = BEFORE_NUMBER;
                    return sign == '<' || sign == '>' || sign == '=';
                case BEFORE_NUMBER:
                    place = IN_NUMBER;
                    digits = 1;
                    return isDigit(sign);
                case IN_NUMBER:
                    digits++;
                    return isDigit(sign) ? digits <= MOST_DIGITS : followsUnit(sign);
                default:
                    return followsUnit(sign);
            }
        }

        private boolean beginsUnit(char sign) {
            if (sign == '(') {
                open++;
                return open <= MOST_OPEN;
            }
            place = BEHIND_WORD;
            return isWord(sign);
        }

        private boolean followsUnit(char sign) {
            if (sign == ')') {
                place = BEHIND_UNIT;
                open--;
                return open >= 0;
            }
            place = BEFORE_UNIT;
            return sign == '&' || sign == '|';
        }

        static boolean isDigit(char sign) {
            return sign >= '0' && sign <= '9';
        }

        static boolean isWord(char sign) {
            return sign == 'y' || sign == 'd' || sign == 'w' || sign == 'l'
                    || sign == 'f' || sign == 'm' || sign == 'k';
        }
    }

    /** Edicts from a day on, told on a day: what statutes and the number of hands have alike. */
    private static final class Edicts {
        final int[] from = new int[MOST_EDICTS];
        final int[] toldOn = new int[MOST_EDICTS];
        int size = 0;

        boolean isFull() {
            return size >= MOST_EDICTS;
        }

        int add(int firstDay, int today) {
            int edict = size;
            from[edict] = firstDay;
            toldOn[edict] = today;
            size++;
            return edict;
        }

        int inForce(int d, int q) {
            int found = NONE;
            for (int edict = 0; edict < size; edict++) {
                boolean fits = toldOn[edict] <= q && from[edict] <= d;
                if (fits && (found == NONE || from[edict] >= from[found])) {
                    found = edict;
                }
            }
            return found;
        }
    }

    /** The statutes: edicts with a text each, that has no fault. */
    private static final class Statutes {
        final Edicts edicts = new Edicts();
        private final char[] signs = new char[MOST_EDICTS * MOST_SIGNS];
        private final int[] length = new int[MOST_EDICTS];

        int add(Draft draft, int firstDay, int today) {
            int statute = edicts.add(firstDay, today);
            System.arraycopy(draft.signs, 0, signs, statute * MOST_SIGNS, draft.length);
            length[statute] = draft.length;
            return statute;
        }

        boolean holds(int statute, Weighing weighing) {
            int begin = statute * MOST_SIGNS;
            weighing.begin();
            for (int i = 0; i < length[statute]; i++) {
                weighing.take(signs[begin + i]);
            }
            return weighing.result();
        }
    }

    /**
     * Weighs a text without fault against a person's values.
     *
     * The lowest bit of 'any' and 'all' is the innermost bracket that is open, the bits above it
     * are those around it: 'any' whether a part before the last | held, 'all' whether all units of
     * the part at hand did.
     */
    private static final class Weighing {
        private static final int DAYS_OF_A_YEAR = 360;

        final int[] values = new int[VALUES_IN_TEXTS];

        private int any = 0;
        private int all = 1;
        private int left = 0;
        private char comparison = ' ';
        private int right = 0;
        private boolean hasNumber = false;

        void begin() {
            any = 0;
            all = 1;
            hasNumber = false;
        }

        void take(char sign) {
            if (Reading.isDigit(sign)) {
                right = right * 10 + (sign - '0');
                hasNumber = true;
                return;
            }
            settleNumber();
            if (Reading.isWord(sign)) {
                left = valueOfWord(sign);
            } else if (sign == '<' || sign == '>' || sign == '=') {
                comparison = sign;
                right = 0;
            } else {
                takeJoint(sign);
            }
        }

        boolean result() {
            settleNumber();
            return holdsHere();
        }

        private void takeJoint(char sign) {
            if (sign == '(') {
                any = any << 1;
                all = (all << 1) | 1;
            } else if (sign == ')') {
                boolean held = holdsHere();
                any = any >>> 1;
                all = all >>> 1;
                countUnit(held);
            } else if (sign == '|') {
                any = any | (all & 1);
                all = all | 1;
            }
        }

        private void settleNumber() {
            if (hasNumber) {
                hasNumber = false;
                countUnit(compares());
            }
        }

        private boolean compares() {
            if (comparison == '<') {
                return left < right;
            }
            return comparison == '>' ? left > right : left == right;
        }

        private void countUnit(boolean held) {
            if (!held) {
                all = all & ~1;
            }
        }

        private boolean holdsHere() {
            return ((any | all) & 1) != 0;
        }

        private int valueOfWord(char word) {
            switch (word) {
                case 'y':
                    return values[SERVED_DAYS] / DAYS_OF_A_YEAR;
                case 'd':
                    return values[SERVED_DAYS];
                case 'w':
                    return values[ROAD_DAYS];
                case 'l':
                    return values[LETTERS];
                case 'f':
                    return values[FEES];
                case 'm':
                    return values[MARK];
                default:
                    return values[CHILD_OF_MASTER];
            }
        }
    }

    /** Pieces with their judges and the points of each part. */
    private static final class Pieces {
        static final int JUDGES = 3;
        static final int PARTS = 4;
        static final int MOST_POINTS = 10;

        private static final int POINTS = JUDGES * PARTS;
        private static final int LEAST_OF_A_PART = 15;
        private static final long FACTOR = 6364136223846793005L;
        private static final long SUMMAND = 1442695040888963407L;

        final int[] owner = new int[MOST_PIECES];
        final int[] doneOn = new int[MOST_PIECES];
        private final int[] drawn = new int[MOST_PIECES * JUDGES];
        private final int[] given = new int[MOST_PIECES * POINTS];
        int size = 0;

        boolean isFull() {
            return size >= MOST_PIECES;
        }

        boolean has(int piece) {
            return piece >= 0 && piece < size;
        }

        static boolean isJudge(int i) {
            return i >= 0 && i < JUDGES;
        }

        static boolean isPart(int part) {
            return part >= 0 && part < PARTS;
        }

        boolean isDone(int piece) {
            return doneOn[piece] != NONE;
        }

        boolean isPassed(int piece) {
            return isDone(piece) && refusedPart(piece) == NONE;
        }

        boolean hasOpen(int person) {
            for (int piece = 0; piece < size; piece++) {
                if (owner[piece] == person && !isDone(piece)) {
                    return true;
                }
            }
            return false;
        }

        int judgeOf(int piece, int i) {
            return drawn[piece * JUDGES + i];
        }

        int add(int person, int[] bench, int fit, long seed) {
            int piece = size;
            owner[piece] = person;
            doneOn[piece] = NONE;
            for (int i = 0; i < POINTS; i++) {
                given[piece * POINTS + i] = NONE;
            }
            drawJudges(piece, bench, fit, seed);
            size++;
            return piece;
        }

        private void drawJudges(int piece, int[] bench, int fit, long seed) {
            long x = seed;
            int left = fit;
            for (int i = 0; i < JUDGES && left > 0; i++) {
                x = x * FACTOR + SUMMAND;
                int place = (int) ((x >>> 33) % left);
                drawn[piece * JUDGES + i] = bench[place];
                left--;
                for (int after = place; after < left; after++) {
                    bench[after] = bench[after + 1];
                }
            }
        }

        void setPoints(int piece, int i, int part, int points, int today) {
            given[piece * POINTS + i * PARTS + part] = points;
            if (allGiven(piece)) {
                doneOn[piece] = today;
            }
        }

        private boolean allGiven(int piece) {
            for (int i = 0; i < POINTS; i++) {
                if (given[piece * POINTS + i] == NONE) {
                    return false;
                }
            }
            return true;
        }

        int markOf(int piece) {
            int sum = 0;
            for (int part = 0; part < PARTS; part++) {
                sum += sumOfPart(piece, part);
            }
            return sum / POINTS;
        }

        int refusedPart(int piece) {
            for (int part = 0; part < PARTS; part++) {
                if (sumOfPart(piece, part) < LEAST_OF_A_PART) {
                    return part;
                }
            }
            return NONE;
        }

        private int sumOfPart(int piece, int part) {
            int sum = 0;
            for (int i = 0; i < JUDGES; i++) {
                sum += given[piece * POINTS + i * PARTS + part];
            }
            return sum;
        }

        int latestMark(int person, int day) {
            int latest = NONE;
            for (int piece = 0; piece < size; piece++) {
                boolean fits = owner[piece] == person && isPassed(piece) && doneOn[piece] <= day;
                if (fits && (latest == NONE || doneOn[piece] >= doneOn[latest])) {
                    latest = piece;
                }
            }
            return latest == NONE ? 0 : markOf(latest);
        }
    }
}
