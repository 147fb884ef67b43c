/** The sentences on people and debts that name a boundary: the first part of Terms, and promises 1 to 6. */
public final class EdgePeopleTest {
    private static final int BAD = DebtSerenade.BAD, FULL = DebtSerenade.FULL, VOID = DebtSerenade.VOID;
    private static final int LEAST = Integer.MIN_VALUE, MOST = Integer.MAX_VALUE;
    private static final int[] TOPS = {15, 9, 12, 999, 99, 999, 15, 99};
    private static final Twins EMPTY = new Twins("an empty lane", Lanes::empty);
    private static final Twins RICH = new Twins("a rich lane", Lanes::rich);
    private static final Twins FILLED = new Twins("a full lane", Lanes::full);

    public static void main(String[] args) {
        emptyLane();
        lanesApart();
        lastCall();
        numbersOfPeople();
        ranges();
        person();
        debtsInAll();
        whoOwesWhom();
        sums();
        mendNumbers();
        mendWhat();
        ofWhat();
        Check.finish();
    }

    private static void emptyLane() {
        Check.says("An empty lane.");
        DebtSerenade x = new DebtSerenade();
        for (int what = 0; what < 6; what++) {
            Check.due("count(" + what + ")", x.count(what), 0);
        }
        for (int what = 0; what < 5; what++) {
            Check.due("led(" + what + ")", x.led(what), 0);
        }
        for (int what = 0; what < 10; what++) {
            int first = what == 6 ? 2 : what == 7 ? 0 : VOID;
            Check.due("of(0, " + what + ")", x.of(0, what), first);
        }
        Check.due("richest", x.richest(), DebtSerenade.NOT);
        Check.due("settle", x.settle(), 0);
        Check.due("lane", x.lane(-1), 0);
        Check.due("crowd", x.crowd(0), 0);
        Check.due("trace", x.trace(0), BAD);
        Check.due("undo", x.undo(), DebtSerenade.STATE);
        Check.due("redo", x.redo(), DebtSerenade.STATE);
        Check.due("back", x.back(), DebtSerenade.STATE);
        Check.due("an empty tape", x.law(), -100);
        Check.says("SHELVES 0 .. 5 each hold nothing (at first)");
        for (int shelf = 0; shelf < 6; shelf++) {
            Check.due("put", x.put(shelf, 0, 1), -11);
            Check.due("taken", x.taken(shelf, 0), -11);
        }
    }

    private static void lanesApart() {
        Check.says("All memory is the class's own.");
        DebtSerenade alone = Lanes.rich();
        DebtSerenade beside = Lanes.rich();
        DebtSerenade other = Lanes.full();
        other.best(3, -1);
        other.act(1, 0, 5);
        other.undo();
        other.letOff(0);
        other.law();
        other.back();
        for (int what = 0; what < 6; what++) {
            Check.due("count(" + what + ")", beside.count(what), alone.count(what));
            Check.due("of(0, " + what + ")", beside.of(0, what), alone.of(0, what));
            Check.due("trace(" + what + ")", beside.trace(what), alone.trace(what));
        }
        Check.due("the law", beside.moves(0), alone.moves(0));
        Check.due("its own image", beside.back(), alone.back());
        Check.due("its own tape", beside.law(), alone.law());
        DebtSerenade fresh = new DebtSerenade();
        Check.due("a new lane is empty", fresh.count(0), 0);
        Check.due("a new lane is empty", fresh.of(0, 6), 2);
        Check.due("and has no image", fresh.back(), DebtSerenade.STATE);
    }

    private static void lastCall() {
        Check.says("An object is used for at most 512 calls after it has been made");
        DebtSerenade x = new DebtSerenade();
        for (int call = 1; call < 512; call++) {
            Check.due("call " + call, x.evening(12), 0);
        }
        Check.due("the last call", x.led(0), 511);
        DebtSerenade y = Lanes.pair(999);
        y.mend(1, 3, 999);
        for (int call = 5; call < 511; call += 2) {
            Check.due("let off", y.letOff(0), 999);
            Check.due("mend", y.mend(0, 5, 999), 0);
        }
        Check.due("one ahead of the last", y.led(4), 999 * 253);
        Check.due("the last call", y.count(3), 40);
    }

    private static void numbersOfPeople() {
        Check.says("7, as they come:");
        DebtSerenade x = new DebtSerenade();
        for (int one = 0; one < 8; one++) {
            Check.due("nobody yet", x.of(one, 0), VOID);
            Check.due("person", x.person(15 - one), one);
            Check.due("house", x.of(one, 0), 15 - one);
            Check.due("count", x.count(0), one + 1);
        }
        for (int what = 0; what < 5; what++) {
            Check.due("the last one", x.of(7, what) == VOID ? 1 : 0, 0);
            for (int one : new int[] {-1, 8, LEAST, MOST}) {
                Check.due("of(" + one + ", " + what + ")", x.of(one, what), VOID);
            }
        }
    }

    private static void ranges() {
        range("HOUSE (0 .. 15, along the lane)", 0, 1);
        range("VOICE (0 .. 9; 5 at first)", 1, 5);
        range("HEART (0 .. 12; 6 at first)", 2, 6);
        range("PURSE (0 .. 999; 50 at first)", 3, 50);
        range("MOVED (0 .. 99; 0 at first)", 4, 0);
        range("SUM (0 .. 999).", 5, 77);
        range("CLASH (0 .. 15; 2 at first: how near two windows are that hear each other)", 6, 2);
        range("EVENING is one more (99 stays; 0 at first)", 7, 0);
    }

    /** The last value that is taken and the first that is refused, on both sides, and the value at first. */
    private static void range(String sentence, int what, int first) {
        Check.says(sentence);
        int top = TOPS[what];
        DebtSerenade x = Lanes.pair(77);
        Check.due("at first", x.of(0, what), first);
        for (int v : new int[] {-1, top + 1, LEAST, MOST}) {
            Check.due("mend to " + v, x.mend(0, what, v), VOID);
            Check.due("as it was", x.of(0, what), first);
        }
        Check.due("mend to the top", x.mend(0, what, top), first);
        Check.due("the top", x.of(0, what), top);
        Check.due("above the top", x.mend(0, what, top + 1), VOID);
        Check.due("the top stays", x.of(0, what), top);
        Check.due("one below it", x.mend(0, what, top - 1), top);
        Check.due("mend to 0", x.mend(0, what, 0), top - 1);
        Check.due("0", x.of(0, what), 0);
        Check.due("below 0", x.mend(0, what, -1), VOID);
        Check.due("0 stays", x.of(0, what), 0);
        Check.due("mend to 1", x.mend(0, what, 1), 0);
        Check.due("1", x.of(0, what), 1);
    }

    private static void person() {
        Check.says("One of PEOPLE in a HOUSE: the number. BAD, FULL: 8.");
        for (int house : new int[] {-1, 16, LEAST, MOST}) {
            EMPTY.refuse("person(" + house + ")", BAD, x -> x.person(house));
            RICH.refuse("person(" + house + ")", BAD, x -> x.person(house));
            FILLED.refuse("BAD ahead of FULL: person(" + house + ")", BAD, x -> x.person(house));
        }
        for (int house : new int[] {0, 7, 15}) {
            FILLED.refuse("person(" + house + ")", FULL, x -> x.person(house));
        }
        DebtSerenade x = new DebtSerenade();
        Check.due("house 0", x.person(0), 0);
        Check.due("house 15", x.person(15), 1);
        Check.due("the same house again", x.person(15), 2);
        for (int one = 3; one < 7; one++) {
            Check.due("person", x.person(15), one);
        }
        Check.due("refused ahead of the last", x.person(16), BAD);
        Check.due("the last", x.person(0), 7);
        Check.due("one more", x.person(0), FULL);
        Check.due("and again", x.person(0), FULL);
        Check.due("count", x.count(0), 8);
    }

    private static void debtsInAll() {
        Check.says("A DEBT: its number. BAD, FULL: 12.");
        DebtSerenade x = Lanes.people(2);
        for (int debt = 0; debt < 12; debt++) {
            Check.due("no such debt yet", x.of(debt, 5), VOID);
            Check.due("refused between", x.debt(11, 5), BAD);
            Check.due("debt", x.debt(1, debt), debt);
            Check.due("sum", x.of(debt, 5), debt);
            Check.due("count", x.count(1), debt + 1);
        }
        Check.due("one more", x.debt(1, 5), FULL);
        Check.due("count", x.count(1), 12);
        Check.says("DEBTS 0 .. 11, as they come: BY (who owes), TO (another one), SUM (0 .. 999).");
        for (int what : new int[] {5, 8, 9}) {
            Check.due("the last debt", x.of(11, what), what == 5 ? 11 : what - 8);
            for (int debt : new int[] {-1, 12, LEAST, MOST}) {
                Check.due("of(" + debt + ", " + what + ")", x.of(debt, what), VOID);
            }
        }
        FILLED.refuse("debt(1, 5)", FULL, y -> y.debt(1, 5));
        FILLED.refuse("debt(1, 0)", FULL, y -> y.debt(1, 0));
        FILLED.refuse("BAD ahead of FULL, to himself", BAD, y -> y.debt(11, 5));
        FILLED.refuse("BAD ahead of FULL, nobody", BAD, y -> y.debt(80, 5));
        FILLED.refuse("BAD ahead of FULL, sum above", BAD, y -> y.debt(1, 1000));
        FILLED.refuse("BAD ahead of FULL, sum below", BAD, y -> y.debt(1, -1));
    }

    private static void whoOwesWhom() {
        Check.says("(bt: 10 times who owes, and to whom, unlike)");
        for (int by = 0; by < 10; by++) {
            for (int to = 0; to < 10; to++) {
                DebtSerenade x = Lanes.people(8);
                boolean so = by < 8 && to < 8 && by != to;
                Check.due("debt(" + by + to + ")", x.debt(10 * by + to, 5), so ? 0 : BAD);
                Check.due("by", x.of(0, 8), so ? by : VOID);
                Check.due("to", x.of(0, 9), so ? to : VOID);
                Check.due("count", x.count(1), so ? 1 : 0);
            }
        }
        for (int bt : new int[] {-1, -10, -12, 5, 15, 50, 51, 55, 100, 101, 112, 1001, LEAST, MOST}) {
            RICH.refuse("debt(" + bt + ", 5)", BAD, x -> x.debt(bt, 5));
        }
        EMPTY.refuse("debt(1, 5)", BAD, x -> x.debt(1, 5));
        EMPTY.refuse("debt(0, 5)", BAD, x -> x.debt(0, 5));
        DebtSerenade one = Lanes.people(1);
        Check.due("to nobody", one.debt(1, 5), BAD);
        Check.due("by nobody", one.debt(10, 5), BAD);
        Check.due("the other came", one.person(3), 1);
        Check.due("to somebody", one.debt(1, 5), 0);
    }

    private static void sums() {
        Check.says("SUM (0 .. 999).");
        for (int sum : new int[] {-1, 1000, LEAST, MOST}) {
            RICH.refuse("debt(1, " + sum + ")", BAD, x -> x.debt(1, sum));
        }
        DebtSerenade x = Lanes.people(2);
        Check.due("the least", x.debt(1, 0), 0);
        Check.due("the most", x.debt(10, 999), 1);
        Check.due("0", x.of(0, 5), 0);
        Check.due("999", x.of(1, 5), 999);
    }

    private static void mendNumbers() {
        Check.says("of one, SUM (5) of a DEBT, CLASH (6), EVENING (7; number 0 for these) becomes v: what it was."
            + " VOID: BAD.");
        for (int what = 0; what < 8; what++) {
            int w = what;
            int v = TOPS[what] - 1;
            int past = what < 6 ? 5 : 1;
            int pastFull = what < 5 ? 8 : what == 5 ? 12 : 1;
            for (int number : new int[] {-1, past, LEAST, MOST}) {
                RICH.refuse("mend(" + number + ", " + w + ", " + v + ")", VOID, x -> x.mend(number, w, v));
                RICH.refuse("of(" + number + ", " + w + ")", VOID, x -> x.of(number, w));
            }
            FILLED.refuse("mend(" + pastFull + ", " + w + ")", VOID, x -> x.mend(pastFull, w, v));
            FILLED.refuse("of(" + pastFull + ", " + w + ")", VOID, x -> x.of(pastFull, w));
            for (int bad : new int[] {-1, TOPS[what] + 1, LEAST, MOST}) {
                RICH.refuse("mend(0, " + w + ", " + bad + ")", VOID, x -> x.mend(0, w, bad));
                FILLED.refuse("mend(0, " + w + ", " + bad + ")", VOID, x -> x.mend(0, w, bad));
            }
            if (what < 6) {
                EMPTY.refuse("mend(0, " + w + ", 1)", VOID, x -> x.mend(0, w, 1));
                EMPTY.refuse("of(0, " + w + ")", VOID, x -> x.of(0, w));
            }
            DebtSerenade y = Lanes.full();
            int last = pastFull - 1;
            int was = y.of(last, what);
            Check.due("mend(" + last + ", " + what + ")", y.mend(last, what, v), was);
            Check.due("of(" + last + ", " + what + ")", y.of(last, what), v);
        }
        DebtSerenade x = new DebtSerenade();
        Check.due("CLASH of an empty lane", x.mend(0, 6, 15), 2);
        Check.due("EVENING of an empty lane", x.mend(0, 7, 99), 0);
    }

    private static void mendWhat() {
        Check.says("HOUSE (what 0), VOICE (1), HEART (2), PURSE (3), MOVED (4) of one");
        for (int what : new int[] {-1, 8, 9, 10, LEAST, MOST}) {
            EMPTY.refuse("mend(0, " + what + ", 0)", VOID, x -> x.mend(0, what, 0));
            RICH.refuse("mend(0, " + what + ", 0)", VOID, x -> x.mend(0, what, 0));
            RICH.refuse("mend(0, " + what + ", 1)", VOID, x -> x.mend(0, what, 1));
        }
        DebtSerenade x = Lanes.pair(0);
        for (int what = 0; what < 8; what++) {
            x.mend(0, what, 9);
            for (int other = 0; other < 8; other++) {
                int[] first = {1, 5, 6, 50, 0, 0, 2, 0};
                Check.due("of(0, " + other + ")", x.of(0, other), other <= what ? 9 : first[other]);
            }
        }
        Check.due("the other one is as he was", x.of(1, 0), 9);
        Check.due("the other one is as he was", x.of(1, 1), 5);
        Check.due("the other one is as he was", x.of(1, 3), 50);
    }

    private static void ofWhat() {
        Check.says("As of mend() (0 to 7); of a DEBT 8 BY, 9 TO. VOID: BAD.");
        for (int what : new int[] {-1, 10, 11, LEAST, MOST}) {
            EMPTY.refuse("of(0, " + what + ")", VOID, x -> x.of(0, what));
            RICH.refuse("of(0, " + what + ")", VOID, x -> x.of(0, what));
        }
        for (int what : new int[] {8, 9}) {
            for (int debt : new int[] {-1, 5, 12, LEAST, MOST}) {
                RICH.refuse("of(" + debt + ", " + what + ")", VOID, x -> x.of(debt, what));
            }
            EMPTY.refuse("of(0, " + what + ")", VOID, x -> x.of(0, what));
            FILLED.refuse("of(12, " + what + ")", VOID, x -> x.of(12, what));
        }
        DebtSerenade x = Lanes.rich();
        Check.due("by of the first", x.of(0, 8), 0);
        Check.due("to of the first", x.of(0, 9), 1);
        Check.due("by of the last", x.of(4, 8), 4);
        Check.due("to of the last", x.of(4, 9), 3);
    }
}
