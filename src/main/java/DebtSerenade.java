import java.util.Arrays;

/**
 * People in a lane who owe one another and are sung to till they pay.
 * No call makes an object: all rows are made once, with the lane, and used again.
 */
public final class DebtSerenade {
    public static final int BAD = -1, NOT = -2, FULL = -3, STATE = -5, VOID = -2000000000;

    private static final int NOTHING_THERE = -11, OTHER_KIND = -12, NO_PLACE = -13, SIZE_BELOW_0 = -14;

    private static final int MOST_PEOPLE = 8, MOST_DEBTS = 12, SILENCE = 12, MOST_SONGS = 40;
    private static final int TOP_HOUSE = 15, TOP_VOICE = 9, TOP_HEART = 12, TOP_MONEY = 999;
    private static final int TOP_MOVED = 99, TOP_CLASH = 15, TOP_EVENING = 99;

    private static final int HOUSE = 0, VOICE = 1, HEART = 2, PURSE = 3, MOVED = 4, SUM = 5;
    private static final int CLASH = 6, EVENING = 7, BY = 8, TO = 9;
    /** The top of each number that mend() tells, by what. */
    private static final int[] TOPS = {
        TOP_HOUSE, TOP_VOICE, TOP_HEART, TOP_MONEY, TOP_MOVED, TOP_MONEY, TOP_CLASH, TOP_EVENING
    };

    private static final int SHELVES = 6;
    private static final int BYTES = 0, SHORTS = 1, INTS = 2, BOOLEANS = 4;

    private static final int LED_EVENINGS = 0, LED_SONGS = 1, LED_PAID = 2, LED_LENT = 3, LED_LET_OFF = 4;
    private static final int LED_NUMBERS = 5;

    private static final int SONG_PRICE = 3, TURN_PAYMENT = 10, MOST_TURNS = 6;

    private final Law theLaw = new Law();
    private final LawReader reader = new LawReader();
    private final Folk folk = new Folk(theLaw);
    private final Tally now = new Tally();
    private final Tally thought = new Tally();
    private final Image kept = new Image();
    private final Changes changes = new Changes();
    private final int[] ledger = new int[LED_NUMBERS];
    private final SongSearch search = new SongSearch(folk);
    private final Windows windows = new Windows(folk);
    private final Payments payments = new Payments(folk);
    private final Tunes tunes = new Tunes();
    private final Shelf[] shelves = new Shelf[SHELVES];

    public DebtSerenade() {
        for (int i = 0; i < SHELVES; i++) {
            shelves[i] = new Shelf();
        }
    }

    // ---- people, debts

    public int person(int house) {
        if (!within(house, TOP_HOUSE)) {
            return BAD;
        }
        if (folk.people >= MOST_PEOPLE) {
            return FULL;
        }
        int one = folk.people;
        folk.moveIn(house);
        now.purse[one] = 50;
        now.moved[one] = 0;
        return one;
    }

    public int debt(int bt, int sum) {
        if (bt < 0 || !canOwe(bt / 10, bt % 10, sum)) {
            return BAD;
        }
        if (folk.debts >= MOST_DEBTS) {
            return FULL;
        }
        return addDebt(bt / 10, bt % 10, sum);
    }

    public int debts(int shelf, int i, int n) {
        if (!isShelf(shelf) || n < 1 || n > MOST_DEBTS) {
            return BAD;
        }
        Shelf row = shelves[shelf];
        if (row.isEmpty()) {
            return 0;
        }
        if (!row.isRowOf(SHORTS)) {
            return OTHER_KIND;
        }
        int came = 0;
        // Any place may be told: where the row has no element, below 0 too, it ends.
        int left = i >= 0 && i < row.length ? (row.length - i) / 3 : 0;
        while (came < n && came < left && debtFrom(row, i + 3 * came)) {
            came++;
        }
        return came;
    }

    public int mend(int number, int what, int v) {
        if (!hasNumber(number, what) || !within(v, TOPS[what])) {
            return VOID;
        }
        int before = numberOf(number, what);
        if (before != v) {
            changes.add(number, what, before, v);
            setNumber(number, what, v);
        }
        return before;
    }

    public int of(int number, int what) {
        if (what == BY || what == TO) {
            if (!folk.isDebt(number)) {
                return VOID;
            }
            return what == BY ? folk.by[number] : folk.to[number];
        }
        return hasNumber(number, what) ? numberOf(number, what) : VOID;
    }

    public int feed(int letter) {
        if (!within(letter, 255)) {
            return BAD;
        }
        return reader.takeIn(letter) ? reader.length : FULL;
    }

    public int law() {
        int fault = reader.read();
        if (fault < 0) {
            theLaw.become(reader.code, reader.written);
        }
        reader.length = 0;
        return fault < 0 ? 1 : -100 - fault;
    }

    public int moves(int debt) {
        if (!folk.isDebt(debt)) {
            return BAD;
        }
        return folk.movedBy(debt, now.moved[folk.by[debt]], now.sum[debt], now.evening);
    }

    // ---- songs in thought

    public int later(int shelf, int n, int number, int what) {
        if (!isShelf(shelf) || !within(n, MOST_SONGS) || !within(what, 2)) {
            return BAD;
        }
        if (what == 0 ? !folk.isDebt(number) : !folk.isOne(number)) {
            return BAD;
        }
        int refusal = refusalOfRow(shelf, BYTES);
        if (refusal != 0) {
            return refusal;
        }
        thinkSongs(shelf, n);
        return switch (what) {
            case 0 -> thought.sum[number];
            case 1 -> thought.purse[number];
            default -> thought.moved[number];
        };
    }

    public int paid(int shelf, int n, int what) {
        if (!isShelf(shelf) || !within(n, MOST_SONGS) || !within(what, 2)) {
            return BAD;
        }
        int refusal = refusalOfRow(shelf, BYTES);
        if (refusal != 0) {
            return refusal;
        }
        if (what == 2) {
            return firstPaying(shelf, n);
        }
        int all = thinkSongs(shelf, n);
        return what == 0 ? all : debtsAtZero(thought);
    }

    public int paidOff(int shelf, int debt) {
        if (!isShelf(shelf) || !folk.isDebt(debt)) {
            return BAD;
        }
        int refusal = refusalOfRow(shelf, BYTES);
        if (refusal != 0) {
            return refusal;
        }
        int songs = songsOn(shelf);
        thought.become(now);
        for (int i = 0; i < songs; i++) {
            if (thought.sum[debt] == 0) {
                return i;
            }
            folk.pass(thought, songAt(shelf, i));
        }
        return thought.sum[debt] == 0 ? songs : NOT;
    }

    public int above(int one) {
        return folk.isOne(one) ? folk.claims(now, one) : VOID;
    }

    public int richest() {
        int best = NOT;
        int most = 0;
        for (int one = 0; one < folk.people; one++) {
            int worth = folk.worth(now, one);
            if (best == NOT || worth > most) {
                best = one;
                most = worth;
            }
        }
        return best;
    }

    public int round(int what) {
        if (!within(what, 2)) {
            return BAD;
        }
        int ring = payments.smallestRing(now);
        if (ring == 0) {
            return NOT;
        }
        return switch (what) {
            case 0 -> Integer.bitCount(ring);
            case 1 -> ring;
            default -> payments.leastOf(now, ring);
        };
    }

    public int settle() {
        return payments.fewest(now);
    }

    public int best(int t, int k) {
        if (!within(t, SongSearch.MOST_EVENINGS) || k < -1 || k >= t) {
            return BAD;
        }
        search.run(now, t);
        return k < 0 ? search.most : search.chosen[k];
    }

    public int help(int what) {
        if (!within(what, 1)) {
            return VOID;
        }
        int best = NOT;
        int most = NOT;
        for (int debt = 0; debt < folk.debts; debt++) {
            thought.become(now);
            thought.sum[debt] = 0;
            int least = folk.leastWorth(thought);
            if (best == NOT || least > most) {
                best = debt;
                most = least;
            }
        }
        return what == 0 ? best : most;
    }

    // ---- lanes, ledgers

    public int lane(int k) {
        if (k != -1 && !folk.isDebt(k)) {
            return BAD;
        }
        if (k != -1 && now.sum[k] == 0) {
            return NOT;
        }
        windows.look(now);
        int evenings = windows.planAll();
        return k == -1 ? evenings : windows.evening[k];
    }

    public int crowd(int what) {
        if (!within(what, 1)) {
            return BAD;
        }
        windows.look(now);
        int bits = windows.largestCrowd();
        return what == 0 ? Integer.bitCount(bits) : bits;
    }

    public int judge(int ss) {
        if (!isPairOfShelves(ss)) {
            return BAD;
        }
        int refusal = refusalOfLedger(ss);
        return refusal != 0 ? refusal : firstUnlike(ss / 10, ss % 10);
    }

    public int hearts(int ss, int one, int what) {
        if (!isPairOfShelves(ss) || !folk.isOne(one) || !within(what, 3)) {
            return BAD;
        }
        int refusal = refusalOfLedger(ss);
        if (refusal != 0) {
            return refusal;
        }
        boolean least = what == 1 || what == 3;
        return what < 2 ? fits(folk.heart, one, TOP_HEART, ss, least) : fits(folk.voice, one, TOP_VOICE, ss, least);
    }

    public int share(int house, int one, int c) {
        if (!within(house, TOP_HOUSE) || !folk.isOne(one) || !within(c, TOP_MONEY)) {
            return BAD;
        }
        if (!folk.isNear(house, one)) {
            return 0;
        }
        int all = folk.voicesNear(house);
        int first = NOT;
        int rest = c;
        for (int other = folk.people - 1; other >= 0; other--) {
            if (folk.isNear(house, other)) {
                first = other;
                rest -= shareOf(c, other, all);
            }
        }
        return shareOf(c, one, all) + (one == first ? rest : 0);
    }

    public int byTurns(int debt, int n, int what) {
        if (!folk.isDebt(debt) || n < 1 || n > MOST_TURNS || !within(what, 1)) {
            return VOID;
        }
        int moved = now.moved[folk.by[debt]];
        int sum = now.sum[debt];
        int purse = now.purse[folk.by[debt]];
        int silent = turnsWorth(debt, n - 1, false, moved, sum, purse);
        int stirred = folk.movedTo(debt, moved, sum, now.evening);
        int sung = turnsWorth(debt, n - 1, false, stirred, sum, purse) - SONG_PRICE;
        if (what == 1) {
            return sung > silent ? 1 : 0;
        }
        return Math.max(silent, sung);
    }

    public int drawn(int seed, int nm, int one) {
        int years = nm / 100;
        int evenings = nm % 100;
        if (years < 1 || years > 30 || evenings < 1 || evenings > 40 || one != -1 && !folk.isOne(one)) {
            return BAD;
        }
        int z = seed;
        int paid = 0;
        int purses = 0;
        for (int year = 0; year < years; year++) {
            thought.become(now);
            for (int evening = 0; evening < evenings; evening++) {
                z = z * 1103515245 + 12345;
                paid += folk.pass(thought, drawnSong(z));
            }
            purses += one == -1 ? 0 : thought.purse[one];
        }
        return one == -1 ? paid : purses;
    }

    // ---- in deed

    public int evening(int debt) {
        if (debt != SILENCE && !folk.isDebt(debt)) {
            return BAD;
        }
        int paid = folk.pass(now, debt);
        ledger[LED_EVENINGS]++;
        ledger[LED_SONGS] += debt == SILENCE ? 0 : 1;
        ledger[LED_PAID] += paid;
        return paid;
    }

    public int lend(int debt, int v) {
        if (!folk.isDebt(debt) || v < 1 || v > TOP_MONEY) {
            return BAD;
        }
        int lender = folk.to[debt];
        int borrower = folk.by[debt];
        if (now.purse[lender] < v || now.sum[debt] + v > TOP_MONEY) {
            return STATE;
        }
        now.purse[lender] -= v;
        now.purse[borrower] = Math.min(TOP_MONEY, now.purse[borrower] + v);
        now.sum[debt] += v;
        ledger[LED_LENT] += v;
        return now.sum[debt];
    }

    public int letOff(int debt) {
        if (!folk.isDebt(debt)) {
            return BAD;
        }
        int sum = now.sum[debt];
        now.sum[debt] = 0;
        ledger[LED_LET_OFF] += sum;
        return sum;
    }

    public int led(int what) {
        return within(what, LED_NUMBERS - 1) ? ledger[what] : BAD;
    }

    public int image() {
        kept.keepAll(folk, now, ledger);
        return ledger[LED_EVENINGS];
    }

    public int back() {
        if (!kept.there) {
            return STATE;
        }
        kept.layBack(now, ledger);
        return ledger[LED_EVENINGS];
    }

    public int undo() {
        int at = changes.stepBack();
        if (at < 0) {
            return STATE;
        }
        setNumber(changes.number[at], changes.what[at], changes.before[at]);
        return changes.done;
    }

    public int redo() {
        int at = changes.stepOn();
        if (at < 0) {
            return STATE;
        }
        setNumber(changes.number[at], changes.what[at], changes.after[at]);
        return changes.known - changes.done;
    }

    // ---- acts, shelves

    public int body(int kind) {
        if (!within(kind, Tunes.TOP_KIND)) {
            return BAD;
        }
        return tunes.add(kind);
    }

    public int act(int body, int act, int x) {
        return tunes.start(body, act, x);
    }

    public int trace(int i) {
        return i >= 0 && i < tunes.traced() ? tunes.trail[i] : BAD;
    }

    public int keep(int shelf, int body) {
        if (!isShelf(shelf) || body != -1 && !tunes.isTune(body)) {
            return BAD;
        }
        shelves[shelf].hold(body);
        return 1;
    }

    public int row(int shelf, int sort, int n) {
        if (!isShelf(shelf) || !within(sort, BOOLEANS) || n > Shelf.MOST) {
            return BAD;
        }
        if (n < 0) {
            return SIZE_BELOW_0;
        }
        shelves[shelf].holdRow(sort, n);
        return 1;
    }

    public int put(int shelf, int i, long v) {
        int refusal = refusalOfPlace(shelf, i);
        if (refusal != 0) {
            return refusal;
        }
        shelves[shelf].write(i, v);
        return 1;
    }

    public long element(int shelf, int i) {
        return refusalOfPlace(shelf, i) == 0 ? shelves[shelf].elements[i] : Long.MIN_VALUE;
    }

    public int shift(int shelf, int i, int other, int j, int n) {
        if (!isShelf(shelf) || !isShelf(other)) {
            return BAD;
        }
        Shelf from = shelves[shelf];
        Shelf onto = shelves[other];
        if (from.isEmpty() || onto.isEmpty()) {
            return NOTHING_THERE;
        }
        if (!from.isRow() || !onto.isRowOf(from.sort)) {
            return OTHER_KIND;
        }
        if (!from.hasPlaces(i, n) || !onto.hasPlaces(j, n)) {
            return NO_PLACE;
        }
        System.arraycopy(from.elements, i, onto.elements, j, n);
        return n;
    }

    public int taken(int shelf, int k) {
        if (!isShelf(shelf) || !within(k, Tunes.TOP_KIND)) {
            return BAD;
        }
        Shelf held = shelves[shelf];
        if (held.isEmpty()) {
            return NOTHING_THERE;
        }
        if (!held.isTune() || !tunes.isUnder(held.tune, k)) {
            return OTHER_KIND;
        }
        return tunes.kindOf(held.tune);
    }

    public int count(int what) {
        return switch (what) {
            case 0 -> folk.people;
            case 1 -> folk.debts;
            case 2 -> reader.length;
            case 3 -> changes.done;
            case 4 -> tunes.bodies;
            case 5 -> tunes.ran;
            default -> BAD;
        };
    }

    // ---- helpers

    private static boolean within(int v, int top) {
        return v >= 0 && v <= top;
    }

    private static boolean isShelf(int shelf) {
        return within(shelf, SHELVES - 1);
    }

    private static boolean isPairOfShelves(int ss) {
        return ss >= 0 && isShelf(ss / 10) && isShelf(ss % 10);
    }

    private boolean canOwe(int by, int to, int sum) {
        return folk.isOne(by) && folk.isOne(to) && by != to && within(sum, TOP_MONEY);
    }

    private int addDebt(int by, int to, int sum) {
        int debt = folk.owe(by, to);
        now.sum[debt] = sum;
        return debt;
    }

    /** Whether the three at a place of a row, all within it, came as a DEBT. */
    private boolean debtFrom(Shelf row, int place) {
        int by = (int) row.elements[place];
        int to = (int) row.elements[place + 1];
        int sum = (int) row.elements[place + 2];
        if (folk.debts >= MOST_DEBTS || !canOwe(by, to, sum)) {
            return false;
        }
        addDebt(by, to, sum);
        return true;
    }

    /** Whether mend() knows such a number. */
    private boolean hasNumber(int number, int what) {
        return switch (what) {
            case HOUSE, VOICE, HEART, PURSE, MOVED -> folk.isOne(number);
            case SUM -> folk.isDebt(number);
            case CLASH, EVENING -> number == 0;
            default -> false;
        };
    }

    private int numberOf(int number, int what) {
        return switch (what) {
            case HOUSE -> folk.house[number];
            case VOICE -> folk.voice[number];
            case HEART -> folk.heart[number];
            case PURSE -> now.purse[number];
            case MOVED -> now.moved[number];
            case SUM -> now.sum[number];
            case CLASH -> folk.clash;
            default -> now.evening;
        };
    }

    private void setNumber(int number, int what, int v) {
        switch (what) {
            case HOUSE -> folk.house[number] = v;
            case VOICE -> folk.voice[number] = v;
            case HEART -> folk.heart[number] = v;
            case PURSE -> now.purse[number] = v;
            case MOVED -> now.moved[number] = v;
            case SUM -> now.sum[number] = v;
            case CLASH -> folk.clash = v;
            default -> now.evening = v;
        }
    }

    /** 0, or why a SHELF that is there holds no ROW of a sort. */
    private int refusalOfRow(int shelf, int sort) {
        if (shelves[shelf].isEmpty()) {
            return NOTHING_THERE;
        }
        return shelves[shelf].isRowOf(sort) ? 0 : OTHER_KIND;
    }

    /** As the document says: all that is amiss with SONGS is told ahead of what is amiss with the LEDGER. */
    private int refusalOfLedger(int ss) {
        int refusal = refusalOfRow(ss / 10, BYTES);
        return refusal != 0 ? refusal : refusalOfRow(ss % 10, SHORTS);
    }

    private int refusalOfPlace(int shelf, int i) {
        if (!isShelf(shelf)) {
            return BAD;
        }
        Shelf held = shelves[shelf];
        if (held.isEmpty()) {
            return NOTHING_THERE;
        }
        if (!held.isRow()) {
            return OTHER_KIND;
        }
        return held.hasPlaces(i, 1) ? 0 : NO_PLACE;
    }

    private int songAt(int shelf, int i) {
        return (int) shelves[shelf].elements[i];
    }

    /** How many SONGS a ROW of bytes has. */
    private int songsOn(int shelf) {
        int most = Math.min(MOST_SONGS, shelves[shelf].length);
        for (int i = 0; i < most; i++) {
            int song = songAt(shelf, i);
            if (song != SILENCE && !folk.isDebt(song)) {
                return i;
            }
        }
        return most;
    }

    /** Thinks the first n SONGS through: how much was paid. */
    private int thinkSongs(int shelf, int n) {
        int songs = Math.min(n, songsOn(shelf));
        int all = 0;
        thought.become(now);
        for (int i = 0; i < songs; i++) {
            all += folk.pass(thought, songAt(shelf, i));
        }
        return all;
    }

    private int firstPaying(int shelf, int n) {
        int songs = Math.min(n, songsOn(shelf));
        thought.become(now);
        for (int i = 0; i < songs; i++) {
            if (folk.pass(thought, songAt(shelf, i)) > 0) {
                return i;
            }
        }
        return NOT;
    }

    private int debtsAtZero(Tally t) {
        int bits = 0;
        for (int debt = 0; debt < folk.debts; debt++) {
            if (t.sum[debt] == 0) {
                bits |= 1 << debt;
            }
        }
        return bits;
    }

    /** The first place of a LEDGER that is not as the SONGS pay; NOT. */
    private int firstUnlike(int songShelf, int paidShelf) {
        int songs = songsOn(songShelf);
        Shelf told = shelves[paidShelf];
        thought.become(now);
        for (int i = 0; i < told.length; i++) {
            if (i >= songs || folk.pass(thought, songAt(songShelf, i)) != told.elements[i]) {
                return i;
            }
        }
        return NOT;
    }

    /** By how many numbers 0 .. top of one the LEDGER is so, or the least of them; the number is as it was, then. */
    private int fits(int[] numbers, int one, int top, int ss, boolean least) {
        int was = numbers[one];
        int first = NOT;
        int many = 0;
        for (int v = 0; v <= top; v++) {
            numbers[one] = v;
            if (firstUnlike(ss / 10, ss % 10) == NOT) {
                many++;
                first = first == NOT ? v : first;
            }
        }
        numbers[one] = was;
        return least ? first : many;
    }

    private int shareOf(int c, int one, int all) {
        return all == 0 ? 0 : c * (folk.voice[one] + 1) / all;
    }

    /** What singer and window make of the turns that are left, if both do their best. */
    private int turnsWorth(int debt, int left, boolean singer, int moved, int sum, int purse) {
        if (left <= 0) {
            return Math.min(moved / 10, Math.min(sum, purse));
        }
        int idle = turnsWorth(debt, left - 1, !singer, moved, sum, purse);
        if (singer) {
            int stirred = folk.movedTo(debt, moved, sum, now.evening);
            int sung = turnsWorth(debt, left - 1, false, stirred, sum, purse) - SONG_PRICE;
            return Math.max(idle, sung);
        }
        int part = Math.min(TURN_PAYMENT, Math.min(sum, purse));
        int paying = turnsWorth(debt, left - 1, true, moved, sum - part, purse - part) + part;
        return Math.min(idle, paying);
    }

    private int drawnSong(int z) {
        if (folk.debts == 0) {
            return SILENCE;
        }
        int debt = (z >>> 8) % folk.debts;
        return (z >>> 16) % 12 < folk.voice[folk.to[debt]] ? debt : SILENCE;
    }

    /** What evenings change. */
    private static final class Tally {
        final int[] purse = new int[MOST_PEOPLE];
        final int[] moved = new int[MOST_PEOPLE];
        final int[] sum = new int[MOST_DEBTS];
        int evening;

        void become(Tally other) {
            takeOver(other, MOST_PEOPLE, MOST_DEBTS);
        }

        /** What is above the top of a PURSE is lost. */
        void pay(int debt, int v, int payer, int payee) {
            sum[debt] -= v;
            purse[payer] -= v;
            purse[payee] = Math.min(TOP_MONEY, purse[payee] + v);
        }

        void takeOver(Tally other, int people, int debts) {
            System.arraycopy(other.purse, 0, purse, 0, people);
            System.arraycopy(other.moved, 0, moved, 0, people);
            System.arraycopy(other.sum, 0, sum, 0, debts);
            evening = other.evening;
        }
    }

    /** Who lives where and who owes whom: what no evening changes. */
    private static final class Folk {
        final int[] house = new int[MOST_PEOPLE];
        final int[] voice = new int[MOST_PEOPLE];
        final int[] heart = new int[MOST_PEOPLE];
        final int[] by = new int[MOST_DEBTS];
        final int[] to = new int[MOST_DEBTS];
        final Law rule;
        int people;
        int debts;
        int clash = 2;

        Folk(Law rule) {
            this.rule = rule;
        }

        boolean isOne(int one) {
            return one >= 0 && one < people;
        }

        boolean isDebt(int debt) {
            return debt >= 0 && debt < debts;
        }

        void moveIn(int where) {
            if (people < MOST_PEOPLE) {
                house[people] = where;
                voice[people] = 5;
                heart[people] = 6;
                people++;
            }
        }

        /** The caller has seen that there is room. */
        int owe(int who, int whom) {
            int debt = Math.min(debts, MOST_DEBTS - 1);
            by[debt] = who;
            to[debt] = whom;
            debts = debt + 1;
            return debt;
        }

        boolean isNear(int where, int one) {
            int apart = house[one] - where;
            return apart <= clash && -apart <= clash;
        }

        int othersNear(int one) {
            int near = 0;
            for (int other = 0; other < people; other++) {
                if (other != one && isNear(house[one], other)) {
                    near++;
                }
            }
            return near;
        }

        int voicesNear(int where) {
            int all = 0;
            for (int one = 0; one < people; one++) {
                if (isNear(where, one)) {
                    all += voice[one] + 1;
                }
            }
            return all;
        }

        /** By how much a song of a DEBT moves him who owes it. */
        int movedBy(int debt, int moved, int sum, int evening) {
            int window = by[debt];
            int v = voice[to[debt]];
            int h = heart[window];
            int told = rule.isWritten() ? rule.tell(v, h, moved, sum, othersNear(window), evening) : v + h / 3;
            return Math.max(0, Math.min(TOP_MOVED, told));
        }

        /** How MOVED he is who owes a DEBT, behind a song and ahead of paying. */
        int movedTo(int debt, int moved, int sum, int evening) {
            return Math.min(TOP_MOVED, moved + movedBy(debt, moved, sum, evening));
        }

        int mostPaid(Tally t, int debt) {
            return Math.min(t.sum[debt], t.purse[by[debt]]);
        }

        int payment(Tally t, int debt, int moved) {
            return moved < 20 ? 0 : Math.min(moved / 10, mostPaid(t, debt));
        }

        /** One EVENING, with a DEBT sung, or none: what is paid. */
        int pass(Tally t, int debt) {
            int window = isDebt(debt) ? by[debt] : -1;
            int paid = 0;
            if (window >= 0) {
                int moved = movedTo(debt, t.moved[window], t.sum[debt], t.evening);
                paid = payment(t, debt, moved);
                t.moved[window] = paid > 0 ? Math.max(0, moved - 10) : moved;
                t.pay(debt, paid, window, to[debt]);
            }
            for (int one = 0; one < people; one++) {
                if (one != window && t.moved[one] > 0) {
                    t.moved[one]--;
                }
            }
            t.evening = Math.min(TOP_EVENING, t.evening + 1);
            return paid;
        }

        /** What others owe one, less what one owes. */
        int claims(Tally t, int one) {
            int all = 0;
            for (int debt = 0; debt < debts; debt++) {
                if (to[debt] == one) {
                    all += t.sum[debt];
                } else if (by[debt] == one) {
                    all -= t.sum[debt];
                }
            }
            return all;
        }

        int worth(Tally t, int one) {
            return t.purse[one] + claims(t, one);
        }

        int leastWorth(Tally t) {
            int least = Integer.MAX_VALUE;
            for (int one = 0; one < people; one++) {
                least = Math.min(least, worth(t, one));
            }
            return least;
        }
    }

    /** THE LAW, as a row of steps over a stack; a step is a sign, a NAME or a number. */
    private static final class Law {
        static final int MOST_STEPS = 256, NAME = 256, NUMBER = 512;
        static final String NAMES = "vhmsne";
        static final int NEGATE = '~';

        private final int[] steps = new int[MOST_STEPS];
        private final int[] given = new int[6];
        private final int[] stack = new int[64];
        private int length;

        boolean isWritten() {
            return length > 0;
        }

        void become(int[] code, int many) {
            length = Math.max(0, Math.min(many, Math.min(code.length, MOST_STEPS)));
            System.arraycopy(code, 0, steps, 0, length);
        }

        /** A jump goes ahead alone, so each turn of the loop is nearer to the end. */
        int tell(int v, int h, int m, int s, int n, int e) {
            given[0] = v;
            given[1] = h;
            given[2] = m;
            given[3] = s;
            given[4] = n;
            given[5] = e;
            int depth = 0;
            for (int at = 0; at < length; at++) {
                int step = steps[at];
                if (step >= NAME && depth < stack.length) {
                    stack[depth] = step >= NUMBER ? step - NUMBER : given[Math.min(step - NAME, 5)];
                    depth++;
                } else if (depth < 1) {
                    return 0;
                } else if (step == ';') {
                    return stack[depth - 1];
                } else if (step == '?') {
                    depth--;
                    int next = at + 1 < length ? steps[at + 1] : length;
                    at = stack[depth] != 0 ? at + 1 : Math.max(at, next - 1);
                } else if (step == '!' || step == NEGATE) {
                    stack[depth - 1] = changed(step, stack[depth - 1]);
                } else if (depth > 1) {
                    depth--;
                    stack[depth - 1] = joined(step, stack[depth - 1], stack[depth]);
                }
            }
            return 0;
        }

        private static int changed(int sign, int v) {
            if (sign == NEGATE) {
                return -v;
            }
            return v == 0 ? 1 : 0;
        }

        private static int joined(int sign, int left, int right) {
            return switch (sign) {
                case '|' -> left != 0 || right != 0 ? 1 : 0;
                case '&' -> left != 0 && right != 0 ? 1 : 0;
                case '<' -> left < right ? 1 : 0;
                case '=' -> left == right ? 1 : 0;
                case '>' -> left > right ? 1 : 0;
                case '+' -> left + right;
                case '-' -> left - right;
                case '*' -> left * right;
                case '/' -> right == 0 ? 0 : left / right;
                case '%' -> right == 0 ? 0 : left % right;
                default -> 0;
            };
        }
    }

    /** THE TAPE, and how a TEXT on it is read: the first byte that does not fit is where the reading stands. */
    private static final class LawReader {
        private static final int TAPE = 120, MOST_OPEN = 6, MOST_DIGITS = 4;
        private static final int LEVELS = 5, COMPARING = 2;

        final int[] code = new int[Law.MOST_STEPS];
        int written;
        int length;
        private final int[] tape = new int[TAPE];
        private int at;
        private int open;
        private boolean wrong;

        boolean takeIn(int letter) {
            if (length >= TAPE) {
                return false;
            }
            tape[length] = letter;
            length++;
            return true;
        }

        /** -1, or the FAULT. */
        int read() {
            at = 0;
            open = 0;
            written = 0;
            wrong = false;
            line();
            for (int i = 0; i < TAPE && skip(";") != 0; i++) {
                line();
            }
            return !wrong && at == length ? -1 : at;
        }

        private void line() {
            joint(0);
            if (skip("?") == 0) {
                emit(';');
                return;
            }
            emit('?');
            int hole = written;
            emit(0);
            joint(0);
            emit(';');
            if (hole < code.length) {
                code[hole] = written;
            }
        }

        /** What the signs of a level join, from the weakest on; of those that compare one at most. */
        private void joint(int level) {
            if (level >= LEVELS) {
                operand();
                return;
            }
            joint(level + 1);
            int most = level == COMPARING ? 1 : TAPE;
            int sign = skip(signsOf(level));
            for (int i = 0; i < most && sign != 0; i++) {
                joint(level + 1);
                emit(sign);
                sign = i + 1 < most ? skip(signsOf(level)) : 0;
            }
        }

        private static String signsOf(int level) {
            return switch (level) {
                case 0 -> "|";
                case 1 -> "&";
                case COMPARING -> "<=>";
                case 3 -> "+-";
                default -> "*/%";
            };
        }

        private void operand() {
            int sign = skip("!-(");
            if (sign != 0) {
                opened(sign);
                return;
            }
            int name = skip(Law.NAMES);
            if (name != 0) {
                emit(Law.NAME + Law.NAMES.indexOf((char) name));
                return;
            }
            number();
        }

        /** Behind one of ! - ( : what it stands ahead of. */
        private void opened(int sign) {
            if (open >= MOST_OPEN) {
                at--;
                wrong = true;
                return;
            }
            open++;
            if (sign == '(') {
                joint(0);
                wrong = wrong || skip(")") == 0;
            } else {
                operand();
                emit(sign == '!' ? '!' : Law.NEGATE);
            }
            open--;
        }

        private void number() {
            int v = 0;
            int digits = 0;
            int digit = skip("0123456789");
            for (int i = 0; i < MOST_DIGITS && digit != 0; i++) {
                v = v * 10 + digit - '0';
                digits++;
                digit = digits < MOST_DIGITS ? skip("0123456789") : 0;
            }
            wrong = wrong || digits == 0;
            emit(Law.NUMBER + v);
        }

        /** The next byte, if it is one of these: it is gone past; else 0. Nothing is gone past behind a fault. */
        private int skip(String signs) {
            if (wrong || at < 0 || at >= length) {
                return 0;
            }
            int sign = tape[at];
            if (signs.indexOf((char) sign) < 0) {
                return 0;
            }
            at++;
            return sign;
        }

        private void emit(int step) {
            if (!wrong && written < code.length) {
                code[written] = step;
                written++;
            }
        }
    }

    /** CHANGES that may be UNDONE (below done), or DONE AGAIN (from there to known). */
    private static final class Changes {
        private static final int MOST = 40;

        final int[] number = new int[MOST];
        final int[] what = new int[MOST];
        final int[] before = new int[MOST];
        final int[] after = new int[MOST];
        int done;
        int known;

        void add(int whose, int which, int old, int v) {
            if (done >= MOST) {
                forgetFirst();
            }
            number[done] = whose;
            what[done] = which;
            before[done] = old;
            after[done] = v;
            done++;
            known = done;
        }

        private void forgetFirst() {
            done = MOST - 1;
            System.arraycopy(number, 1, number, 0, done);
            System.arraycopy(what, 1, what, 0, done);
            System.arraycopy(before, 1, before, 0, done);
            System.arraycopy(after, 1, after, 0, done);
        }

        /** The change that is to be undone; -1. */
        int stepBack() {
            if (done <= 0) {
                return -1;
            }
            done--;
            return done;
        }

        /** The change that is to be done again; -1. */
        int stepOn() {
            if (done >= known) {
                return -1;
            }
            done++;
            return done - 1;
        }
    }

    /** AN IMAGE; it stays when it has been laid back. */
    private static final class Image {
        private final Tally tally = new Tally();
        private final int[] figures = new int[LED_NUMBERS];
        private int people;
        private int debts;
        boolean there;

        void keepAll(Folk folk, Tally now, int[] ledger) {
            people = folk.people;
            debts = folk.debts;
            tally.become(now);
            System.arraycopy(ledger, 0, figures, 0, LED_NUMBERS);
            there = true;
        }

        void layBack(Tally now, int[] ledger) {
            now.takeOver(tally, people, debts);
            System.arraycopy(figures, 0, ledger, 0, LED_NUMBERS);
        }
    }

    /** BEST: all SONGS for some evenings are tried, the least numbers first, so that of like ones the first stays. */
    private static final class SongSearch {
        static final int MOST_EVENINGS = 4;
        private static final int MOST_A_SONG = TOP_MOVED / 10;

        final int[] chosen = new int[MOST_EVENINGS];
        int most;
        private final Folk folk;
        private final Tally[] nights = new Tally[MOST_EVENINGS];
        private final int[] tried = new int[MOST_EVENINGS];

        SongSearch(Folk folk) {
            this.folk = folk;
            for (int i = 0; i < MOST_EVENINGS; i++) {
                nights[i] = new Tally();
            }
        }

        void run(Tally now, int evenings) {
            most = 0;
            if (evenings > 0 && evenings <= MOST_EVENINGS) {
                most = -1;
                nights[0].become(now);
                tryFrom(0, evenings, 0);
            }
        }

        private void tryFrom(int night, int evenings, int paid) {
            boolean last = night + 1 >= evenings;
            for (int choice = 0; choice <= folk.debts; choice++) {
                if (paid + MOST_A_SONG * (evenings - night) <= most) {
                    return;
                }
                int song = choice < folk.debts ? choice : SILENCE;
                tried[night] = song;
                if (last) {
                    end(nights[night], song, evenings, paid);
                } else {
                    Tally next = nights[night + 1];
                    next.become(nights[night]);
                    int more = folk.pass(next, song);
                    tryFrom(night + 1, evenings, paid + more);
                }
            }
        }

        /** Of the last evening only what is paid matters; THE LAW is not asked where it could not make more. */
        private void end(Tally t, int song, int evenings, int paid) {
            int all = paid;
            if (folk.isDebt(song)) {
                if (paid + folk.mostPaid(t, song) <= most) {
                    return;
                }
                int moved = t.moved[folk.by[song]];
                all += folk.payment(t, song, folk.movedTo(song, moved, t.sum[song], t.evening));
            }
            if (all > most) {
                most = all;
                System.arraycopy(tried, 0, chosen, 0, evenings);
            }
        }
    }

    /** LANE and CROWD, over the DEBTS above 0. */
    private static final class Windows {
        final int[] evening = new int[MOST_DEBTS];
        private final Folk folk;
        private final int[] clashing = new int[MOST_DEBTS];
        private final int[] sungOn = new int[MOST_DEBTS];
        private int owed;

        Windows(Folk folk) {
            this.folk = folk;
        }

        void look(Tally t) {
            owed = 0;
            for (int debt = 0; debt < folk.debts; debt++) {
                clashing[debt] = 0;
                if (t.sum[debt] > 0) {
                    owed |= 1 << debt;
                }
                for (int other = 0; other < folk.debts; other++) {
                    if (other != debt && clash(debt, other)) {
                        clashing[debt] |= 1 << other;
                    }
                }
            }
        }

        /** Who is sung to twice has windows that clash, as they are the same. */
        private boolean clash(int debt, int other) {
            return folk.to[debt] == folk.to[other] || folk.isNear(folk.house[folk.by[debt]], folk.by[other]);
        }

        int largestCrowd() {
            int best = 0;
            int many = 0;
            for (int bits = 1; bits < 1 << folk.debts; bits++) {
                if ((bits & ~owed) == 0 && Integer.bitCount(bits) > many && allClash(bits)) {
                    best = bits;
                    many = Integer.bitCount(bits);
                }
            }
            return best;
        }

        private boolean allClash(int bits) {
            for (int debt = 0; debt < folk.debts; debt++) {
                int others = bits & ~(1 << debt);
                if (others != bits && (others & ~clashing[debt]) != 0) {
                    return false;
                }
            }
            return true;
        }

        /** How many evenings are needed: at least as many as the largest crowd has DEBTS. */
        int planAll() {
            Arrays.fill(sungOn, 0);
            for (int limit = Integer.bitCount(largestCrowd()); limit <= MOST_DEBTS; limit++) {
                if (plan(0, 0, limit)) {
                    return limit;
                }
            }
            return MOST_DEBTS;
        }

        /** Whether DEBTS from one on find evenings below the limit; the earliest that will do for each. */
        private boolean plan(int debt, int used, int limit) {
            if (debt >= folk.debts) {
                return true;
            }
            int bit = 1 << debt;
            if ((owed & bit) == 0) {
                return plan(debt + 1, used, limit);
            }
            for (int e = 0; e <= used && e < limit; e++) {
                if ((sungOn[e] & clashing[debt]) == 0) {
                    sungOn[e] |= bit;
                    evening[debt] = e;
                    if (plan(debt + 1, Math.max(used, e + 1), limit)) {
                        return true;
                    }
                    sungOn[e] &= ~bit;
                }
            }
            return false;
        }
    }

    /** ROUND and SETTLE. */
    private static final class Payments {
        private final Folk folk;
        private final int[] sums = new int[1 << MOST_PEOPLE];
        private final int[] groups = new int[1 << MOST_PEOPLE];

        Payments(Folk folk) {
            this.folk = folk;
        }

        /** Bits of the fewest DEBTS above 0 that go round; 0: none. */
        int smallestRing(Tally t) {
            int owed = 0;
            for (int debt = 0; debt < folk.debts; debt++) {
                owed |= t.sum[debt] > 0 ? 1 << debt : 0;
            }
            int best = 0;
            int few = MOST_DEBTS + 1;
            for (int bits = 1; bits < 1 << folk.debts; bits++) {
                if ((bits & ~owed) == 0 && Integer.bitCount(bits) < few && isEven(bits)) {
                    best = bits;
                    few = Integer.bitCount(bits);
                }
            }
            return best;
        }

        /** Whether each one owes as many of these as he is owed: the fewest that are so are a single ring. */
        private boolean isEven(int bits) {
            int owing = 0;
            int owned = 0;
            for (int debt = 0; debt < folk.debts; debt++) {
                if ((bits >> debt & 1) != 0) {
                    owing += 1 << 4 * folk.by[debt];
                    owned += 1 << 4 * folk.to[debt];
                }
            }
            return owing == owned;
        }

        int leastOf(Tally t, int bits) {
            int least = TOP_MONEY;
            for (int debt = 0; debt < folk.debts; debt++) {
                if ((bits >> debt & 1) != 0) {
                    least = Math.min(least, t.sum[debt]);
                }
            }
            return least;
        }

        /**
         * A group of people whose ABOVE is 0 together settles with one payment less than it has people,
         * so the fewest payments come of the most such groups.
         */
        int fewest(Tally t) {
            sumUp(t);
            int all = 1 << folk.people;
            groups[0] = 0;
            for (int bits = 1; bits < all; bits++) {
                groups[bits] = mostGroups(bits) + (sums[bits] == 0 ? 1 : 0);
            }
            return folk.people - groups[all - 1];
        }

        /** ABOVE of each set of people together. */
        private void sumUp(Tally t) {
            sums[0] = 0;
            for (int one = 0; one < folk.people; one++) {
                int claims = folk.claims(t, one);
                int bit = 1 << one;
                for (int rest = 0; rest < bit; rest++) {
                    sums[bit + rest] = sums[rest] + claims;
                }
            }
        }

        /** The most groups of 0 that can be built one behind the other without the one who comes last. */
        private int mostGroups(int bits) {
            int most = 0;
            for (int one = 0; one < folk.people; one++) {
                if ((bits >> one & 1) != 0) {
                    most = Math.max(most, groups[bits ^ (1 << one)]);
                }
            }
            return most;
        }
    }

    /** BODIES, and the bodies of acts that each KIND has or takes from above. */
    private static final class Tunes {
        static final int TOP_KIND = 7;
        private static final int MOST = 50, ACTS = 4, TRAIL = 24, DEEPEST = 40;
        private static final int SINGS = 0, MOVES = 1, HUMS = 2, TELLS = 3;
        private static final int TUNE = 0, HINGE = 1, WINDOW = 2, LANE = 3, DRAPER = 4, SILL = 5, FIGURE = 6, WEDDING = 7;
        /** The KIND above each KIND; above TUNE there is none. */
        private static final int[] ABOVE = {-1, TUNE, TUNE, WINDOW, HINGE, LANE, TUNE, DRAPER};
        /** The bodies that each KIND has of its own, act by act; 0: none. */
        private static final int[] BODIES = {
            1, 10, 11, 2,
            20, 0, 0, 0,
            0, 30, 0, 0,
            0, 41, 40, 0,
            0, 0, 50, 0,
            0, 0, 0, 60,
            70, 0, 0, 0,
            0, 80, 0, 81
        };

        final int[] trail = new int[TRAIL];
        int bodies;
        int ran;
        private final int[] kinds = new int[MOST];

        int add(int kind) {
            if (bodies >= MOST) {
                return FULL;
            }
            kinds[bodies] = kind;
            bodies++;
            return bodies - 1;
        }

        boolean isTune(int body) {
            return body >= 0 && body < bodies;
        }

        int kindOf(int body) {
            return isTune(body) ? kinds[body] : -1;
        }

        boolean isUnder(int body, int kind) {
            int k = kindOf(body);
            for (int i = 0; i <= TOP_KIND && k >= 0; i++) {
                if (k == kind) {
                    return true;
                }
                k = ABOVE[k];
            }
            return false;
        }

        int traced() {
            return Math.min(ran, TRAIL);
        }

        int start(int body, int act, int x) {
            ran = 0;
            return isTune(body) && within(act, TELLS) ? own(act, x, body, 0) : 0;
        }

        /** The body of an act by the tune's own KIND. */
        private int own(int act, int x, int n, int depth) {
            return run(kindOf(n), act, x, n, depth + 1);
        }

        /** The body of an act from the KIND above one on. */
        private int higher(int kind, int act, int x, int n, int depth) {
            return run(ABOVE[kind], act, x, n, depth + 1);
        }

        private static int bodyFor(int kind, int act) {
            int k = kind;
            for (int i = 0; i <= TOP_KIND && k >= 0; i++) {
                if (BODIES[k * ACTS + act] != 0) {
                    return BODIES[k * ACTS + act];
                }
                k = ABOVE[k];
            }
            return 0;
        }

        private int run(int kind, int act, int x, int n, int depth) {
            int body = bodyFor(kind, act);
            if (body == 0 || depth > DEEPEST) {
                return 0;
            }
            if (ran < TRAIL) {
                trail[ran] = body;
            }
            ran++;
            return switch (body) {
                case 1 -> x + n;
                case 2 -> own(MOVES, x, n, depth) - own(HUMS, 1, n, depth);
                case 10 -> own(SINGS, x, n, depth) * 2;
                case 11 -> x ^ n;
                case 20 -> higher(HINGE, SINGS, x, n, depth) + 3;
                case 30 -> -higher(WINDOW, MOVES, x, n, depth);
                case 40 -> higher(LANE, HUMS, x, n, depth) * 3;
                case 41 -> higher(LANE, MOVES, x + 1, n, depth);
                case 50 -> higher(DRAPER, HUMS, x, n, depth) - own(SINGS, 2, n, depth);
                case 60 -> higher(SILL, TELLS, x, n, depth) ^ 5;
                case 70 -> higher(FIGURE, SINGS, x, n, depth) * 2;
                case 80 -> higher(WEDDING, MOVES, x, n, depth) + own(HUMS, 2, n, depth);
                case 81 -> higher(WEDDING, TELLS, x, n, depth) - 1;
                default -> 0;
            };
        }
    }

    /** A SHELF: nothing, a TUNE, or a ROW. */
    private static final class Shelf {
        static final int MOST = 60;
        private static final int NO_ROW = -1;

        final long[] elements = new long[MOST];
        int tune = -1;
        int sort = NO_ROW;
        int length;

        boolean isEmpty() {
            return tune < 0 && sort == NO_ROW;
        }

        boolean isTune() {
            return tune >= 0;
        }

        boolean isRow() {
            return sort != NO_ROW;
        }

        boolean isRowOf(int which) {
            return isRow() && sort == which;
        }

        /** A TUNE, or nothing (-1). */
        void hold(int body) {
            tune = body;
            sort = NO_ROW;
            length = 0;
        }

        void holdRow(int which, int n) {
            tune = -1;
            sort = which;
            length = Math.max(0, Math.min(n, MOST));
            Arrays.fill(elements, 0L);
        }

        boolean hasPlaces(int i, int n) {
            return i >= 0 && n >= 0 && i <= length && n <= length - i;
        }

        /** The caller has seen that the place is there. */
        void write(int i, long v) {
            elements[i] = switch (sort) {
                case BYTES -> (byte) v;
                case SHORTS -> (short) v;
                case INTS -> (int) v;
                case BOOLEANS -> v != 0 ? 1L : 0L;
                default -> v;
            };
        }
    }
}
