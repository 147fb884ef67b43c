/** The sentences on DEBTS FROM A ROW that name a boundary: promise 4. */
public final class EdgeRowsOfDebtsTest {
    private static final int BAD = DebtSerenade.BAD;
    private static final int LEAST = Integer.MIN_VALUE, MOST = Integer.MAX_VALUE;
    private static final Twins EMPTY = new Twins("an empty lane", Lanes::empty);
    private static final Twins RICH = new Twins("a rich lane", Lanes::rich);
    private static final Twins FILLED = new Twins("a full lane", Lanes::full);

    public static void main(String[] args) {
        refusals();
        howMany();
        missing();
        rowEnds();
        oneIsNotSo();
        full();
        Check.finish();
    }

    private static void refusals() {
        Check.says("DEBTS FROM A ROW on a SHELF, from place i on, n (1 .. 12) of them: how many came. BAD, -12 (no ROW"
            + " of shorts; a SHELF that holds nothing is missing).");
        for (int shelf : new int[] {-1, 6, LEAST, MOST}) {
            EMPTY.refuse("debts(" + shelf + ", 0, 1)", BAD, x -> x.debts(shelf, 0, 1));
            RICH.refuse("debts(" + shelf + ", 0, 1)", BAD, x -> x.debts(shelf, 0, 1));
        }
        for (int n : new int[] {0, 13, -1, LEAST, MOST}) {
            EMPTY.refuse("debts(0, 0, " + n + ")", BAD, x -> x.debts(0, 0, n));
            RICH.refuse("debts(1, 0, " + n + ")", BAD, x -> x.debts(1, 0, n));
            RICH.refuse("BAD ahead of -12: debts(0, 0, " + n + ")", BAD, x -> x.debts(0, 0, n));
            RICH.refuse("BAD ahead of -12: debts(2, -1, " + n + ")", BAD, x -> x.debts(2, -1, n));
        }
        for (int i : new int[] {0, 1, -1, 60, LEAST, MOST}) {
            RICH.refuse("bytes from " + i, -12, x -> x.debts(0, i, 1));
            RICH.refuse("a tune from " + i, -12, x -> x.debts(2, i, 1));
            RICH.refuse("longs from " + i, -12, x -> x.debts(4, i, 12));
            RICH.refuse("booleans from " + i, -12, x -> x.debts(5, i, 1));
            FILLED.refuse("ints from " + i, -12, x -> x.debts(4, i, 1));
        }
        for (int sort = 0; sort < 5; sort++) {
            DebtSerenade x = Lanes.people(2);
            Check.row(x, 5, sort, 0, 1, 1);
            Check.due("sort " + sort, x.debts(5, 0, 1), sort == 1 ? 1 : -12);
        }
    }

    private static void howMany() {
        Check.says("n (1 .. 12) of them");
        for (int n = 1; n <= 12; n++) {
            DebtSerenade x = withThrees(20);
            Check.due("from 0, " + n, x.debts(0, 0, n), n);
            Check.due("count", x.count(1), n);
            Check.due("sum of the last", x.of(n - 1, 5), n - 1);
            x = withThrees(20);
            Check.due("to the row's end, " + n, x.debts(0, 60 - 3 * n, n), n);
            Check.due("sum of the last", x.of(n - 1, 5), 19);
        }
    }

    /** Two people, and a ROW of so many threes: 1 owes 0 as much as their number. */
    private static DebtSerenade withThrees(int many) {
        DebtSerenade x = Lanes.people(2);
        x.row(0, 1, 3 * many);
        for (int i = 0; i < many; i++) {
            x.put(0, 3 * i, 1);
            x.put(0, 3 * i + 2, i);
        }
        return x;
    }

    private static void missing() {
        Check.says("it ends where the row is missing");
        for (int i : new int[] {0, 1, -1, 59, 60, LEAST, MOST}) {
            for (int n : new int[] {1, 12}) {
                EMPTY.refuse("debts(0, " + i + ", " + n + ")", 0, x -> x.debts(0, i, n));
                EMPTY.refuse("debts(5, " + i + ", " + n + ")", 0, x -> x.debts(5, i, n));
                RICH.refuse("debts(3, " + i + ", " + n + ")", 0, x -> x.debts(3, i, n));
                FILLED.refuse("debts(3, " + i + ", " + n + ")", 0, x -> x.debts(3, i, n));
            }
        }
        DebtSerenade x = withThrees(4);
        Check.due("the row is there", x.debts(0, 0, 1), 1);
        x.keep(0, -1);
        Check.due("taken off", x.debts(0, 0, 1), 0);
    }

    private static void rowEnds() {
        Check.says("ends (within a three, too)");
        for (int length = 0; length <= 12; length++) {
            for (int i = 0; i <= length + 1; i++) {
                DebtSerenade x = Lanes.people(2);
                x.row(0, 1, length);
                for (int place = 0; place < length; place++) {
                    x.put(0, place, (place - i + 12) % 3 == 1 ? 1 : 0);
                }
                int came = i <= length ? (length - i) / 3 : 0;
                Check.due("a row of " + length + " from " + i, x.debts(0, i, 12), came);
                Check.due("count", x.count(1), came);
            }
        }
        for (int i : new int[] {-1, -2, -3, 58, 59, 60, 61, LEAST, MOST, MOST - 1, MOST - 2}) {
            FILLED.refuse("from " + i, 0, x -> x.debts(1, i, 12));
            DebtSerenade x = withThrees(20);
            Check.due("from " + i, x.debts(0, i, 12), 0);
            Check.due("none came", x.count(1), 0);
        }
        DebtSerenade x = withThrees(20);
        Check.due("the last three", x.debts(0, 57, 12), 1);
        Check.due("its sum", x.of(0, 5), 19);
    }

    private static void oneIsNotSo() {
        Check.says("one is not so");
        long[][] wrong = {{2, 1, 5}, {-1, 1, 5}, {0, 2, 5}, {0, -1, 5}, {0, 0, 5}, {1, 1, 5}, {0, 1, -1}, {0, 1, 1000},
            {0, 1, 32767}, {0, 1, -32768}, {32767, 1, 5}, {-32768, 1, 5}, {0, 32767, 5}, {0, -32768, 5}};
        for (long[] three : wrong) {
            for (int ahead = 0; ahead <= 2; ahead++) {
                DebtSerenade x = Lanes.people(2);
                x.row(0, 1, 12);
                for (int i = 0; i < 4; i++) {
                    boolean here = i == ahead;
                    x.put(0, 3 * i, here ? three[0] : 1);
                    x.put(0, 3 * i + 1, here ? three[1] : 0);
                    x.put(0, 3 * i + 2, here ? three[2] : 999);
                }
                Check.due("those ahead came", x.debts(0, 0, 12), ahead);
                Check.due("and no other", x.count(1), ahead);
                Check.due("the one that is not so is none", x.of(ahead, 5), DebtSerenade.VOID);
            }
        }
        DebtSerenade x = Lanes.people(8);
        Check.row(x, 0, 1, 0, 7, 0, 7, 0, 999, 7, 6, 1, 6, 7, 998, 8, 0, 1);
        Check.due("the last that are so", x.debts(0, 0, 12), 4);
        int[][] came = {{0, 7, 0}, {7, 0, 999}, {7, 6, 1}, {6, 7, 998}};
        for (int debt = 0; debt < 4; debt++) {
            Check.due("by", x.of(debt, 8), came[debt][0]);
            Check.due("to", x.of(debt, 9), came[debt][1]);
            Check.due("sum", x.of(debt, 5), came[debt][2]);
        }
        Check.due("nobody lives in an empty lane", nobody().debts(0, 0, 1), 0);
    }

    private static DebtSerenade nobody() {
        DebtSerenade x = new DebtSerenade();
        Check.row(x, 0, 1, 0, 1, 5);
        return x;
    }

    private static void full() {
        Check.says("or DEBTS are FULL: those ahead came.");
        for (int there = 0; there <= 12; there++) {
            DebtSerenade x = withThrees(20);
            for (int debt = 0; debt < there; debt++) {
                Check.due("debt", x.debt(1, 500), debt);
            }
            Check.due("with " + there + " there", x.debts(0, 0, 12), 12 - there);
            Check.due("count", x.count(1), 12);
            Check.due("sum of the last", x.of(11, 5), there == 12 ? 500 : 11 - there);
            Check.due("none more", x.debts(0, 0, 1), 0);
        }
        DebtSerenade x = withThrees(20);
        for (int debt = 0; debt < 10; debt++) {
            x.debt(1, 500);
        }
        Check.due("n ends it ahead of FULL", x.debts(0, 0, 1), 1);
        Check.due("n is as much as there is room for", x.debts(0, 0, 1), 1);
        Check.due("FULL", x.debts(0, 0, 1), 0);
    }
}
