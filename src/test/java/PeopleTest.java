/** Promises 1 to 6: a new object, person, debt, debts, mend, of. */
public final class PeopleTest {
    public static void main(String[] args) {
        newObject();
        persons();
        debts();
        debtsFromRow();
        mendAndOf();
        Check.finish();
    }

    private static void newObject() {
        DebtSerenade x = new DebtSerenade();
        for (int what = 0; what <= 5; what++) {
            Check.due("count(" + what + ")", x.count(what), 0);
        }
        Check.due("clash", x.of(0, 6), 2);
        Check.due("evening", x.of(0, 7), 0);
        for (int what = 0; what <= 4; what++) {
            Check.due("led(" + what + ")", x.led(what), 0);
        }
        for (int shelf = 0; shelf < 6; shelf++) {
            Check.due("put on an empty shelf", x.put(shelf, 0, 1), -11);
        }
    }

    private static void persons() {
        DebtSerenade x = new DebtSerenade();
        Check.due("person(-1)", x.person(-1), DebtSerenade.BAD);
        Check.due("person(16)", x.person(16), DebtSerenade.BAD);
        Check.people(x, 0, 15, 3, 3, 4, 5, 6, 7);
        Check.due("ninth", x.person(3), DebtSerenade.FULL);
        Check.due("BAD ahead of FULL", x.person(16), DebtSerenade.BAD);
        Check.due("count", x.count(0), 8);
        int[] first = {15, 5, 6, 50, 0};
        for (int what = 0; what < 5; what++) {
            Check.due("of(1, " + what + ")", x.of(1, what), first[what]);
        }
    }

    private static void debts() {
        DebtSerenade x = new DebtSerenade();
        Check.people(x, 1, 2, 3);
        int[] bad = {-1, -12, 0, 11, 22, 3, 30, 13, 31, 100, 101, 9, 8, Integer.MIN_VALUE, Integer.MAX_VALUE};
        for (int bt : bad) {
            Check.due("debt(" + bt + ")", x.debt(bt, 5), DebtSerenade.BAD);
        }
        Check.due("sum -1", x.debt(1, -1), DebtSerenade.BAD);
        Check.due("sum 1000", x.debt(1, 1000), DebtSerenade.BAD);
        for (int i = 0; i < 12; i++) {
            Check.due("debt " + i, x.debt(i % 2 == 0 ? 12 : 20, i == 0 ? 0 : 999), i);
        }
        Check.due("FULL", x.debt(1, 5), DebtSerenade.FULL);
        Check.due("BAD ahead of FULL", x.debt(11, 5), DebtSerenade.BAD);
        Check.due("BAD ahead of FULL, by sum", x.debt(1, 1000), DebtSerenade.BAD);
        Check.due("by", x.of(0, 8), 1);
        Check.due("to", x.of(0, 9), 2);
        Check.due("by", x.of(11, 8), 2);
        Check.due("to", x.of(11, 9), 0);
        Check.due("sum", x.of(0, 5), 0);
        Check.due("sum", x.of(11, 5), 999);
        Check.due("by of no debt", x.of(12, 8), DebtSerenade.VOID);
        Check.due("to of no debt", x.of(-1, 9), DebtSerenade.VOID);
    }

    private static void debtsFromRow() {
        DebtSerenade x = new DebtSerenade();
        Check.people(x, 1, 2, 3);
        Check.due("nothing there is missing", x.debts(0, 0, 3), 0);
        Check.due("shelf -1", x.debts(-1, 0, 1), DebtSerenade.BAD);
        Check.due("shelf 6", x.debts(6, 0, 1), DebtSerenade.BAD);
        Check.due("n 0", x.debts(0, 0, 0), DebtSerenade.BAD);
        Check.due("n 13", x.debts(0, 0, 13), DebtSerenade.BAD);
        Check.due("missing at place -1", x.debts(0, -1, 1), 0);
        Check.due("missing at the least place", x.debts(0, Integer.MIN_VALUE, 12), 0);
        Check.due("BAD n at place -1", x.debts(0, -1, 0), DebtSerenade.BAD);
        Check.due("BAD shelf at place -1", x.debts(6, -1, 1), DebtSerenade.BAD);
        Check.row(x, 1, 0, 0, 1, 5);
        Check.due("bytes", x.debts(1, 0, 1), -12);
        Check.due("bytes at place -1", x.debts(1, -1, 1), -12);
        Check.due("BAD ahead of -12", x.debts(1, 0, 13), DebtSerenade.BAD);
        x.body(0);
        x.keep(2, 0);
        Check.due("a tune", x.debts(2, 0, 1), -12);
        Check.due("a tune at place -3", x.debts(2, -3, 1), -12);
        Check.row(x, 0, 1, 7, 0, 1, 10, 1, 2, 20, 2, 2, 30, 0, 1);
        Check.due("n ends it", x.debts(0, 1, 1), 1);
        Check.due("one is not so", x.debts(0, 1, 12), 2);
        Check.due("first not so", x.debts(0, 0, 12), 0);
        Check.due("within a three", x.debts(0, 10, 1), 0);
        Check.due("behind the end", x.debts(0, 60, 1), 0);
        Check.due("far behind the end", x.debts(0, Integer.MAX_VALUE, 12), 0);
        Check.due("ahead of the row", x.debts(0, -1, 12), 0);
        Check.due("a three ahead of it", x.debts(0, -2, 12), 0);
        Check.due("two threes ahead of it", x.debts(0, -5, 12), 0);
        Check.due("far ahead of it", x.debts(0, Integer.MIN_VALUE, 12), 0);
        Check.due("count", x.count(1), 3);
        Check.due("sum", x.of(2, 5), 20);
        DebtSerenade y = new DebtSerenade();
        Check.people(y, 1, 2, 3);
        Check.row(y, 0, 1, 0, 1, 10, 1, 2, 20, 2, 1, 30, 2, 0, 40);
        Check.due("to the last three", y.debts(0, 3, 12), 3);
        Check.due("sum", y.of(2, 5), 40);
        Check.row(y, 0, 1, 0, 1, 1000, 0, 1, 5);
        Check.due("sum above", y.debts(0, 0, 2), 0);
        Check.row(y, 0, 1, 0, 1, -1);
        Check.due("sum below", y.debts(0, 0, 1), 0);
        Check.row(y, 0, 1, 0, 3, 1, 3, 0, 1, -1, 0, 1);
        Check.due("nobody", y.debts(0, 0, 1), 0);
        Check.due("nobody", y.debts(0, 3, 1), 0);
        Check.due("nobody", y.debts(0, 6, 1), 0);
        Check.due("count", y.count(1), 3);
        long[] many = new long[60];
        for (int i = 0; i < 20; i++) {
            many[3 * i] = 2;
            many[3 * i + 2] = i;
        }
        Check.row(x, 3, 1, many);
        Check.due("till full", x.debts(3, 0, 12), 9);
        Check.due("full", x.debts(3, 0, 12), 0);
        Check.due("count", x.count(1), 12);
        Check.due("sum", x.of(11, 5), 8);
    }

    private static void mendAndOf() {
        DebtSerenade x = new DebtSerenade();
        Check.people(x, 1, 2);
        x.debt(1, 40);
        int[] tops = {15, 9, 12, 999, 99, 999, 15, 99};
        int[] first = {1, 5, 6, 50, 0, 40, 2, 0};
        for (int what = 0; what < 8; what++) {
            Check.due("of " + what, x.of(0, what), first[what]);
            Check.due("above the top " + what, x.mend(0, what, tops[what] + 1), DebtSerenade.VOID);
            Check.due("below 0 " + what, x.mend(0, what, -1), DebtSerenade.VOID);
            Check.due("to the top " + what, x.mend(0, what, tops[what]), first[what]);
            Check.due("of " + what, x.of(0, what), tops[what]);
            Check.due("to 0 " + what, x.mend(0, what, 0), tops[what]);
            Check.due("of " + what, x.of(0, what), 0);
            int nobody = what == 5 ? 1 : what < 5 ? 2 : 1;
            Check.due("of nobody " + what, x.of(nobody, what), DebtSerenade.VOID);
            Check.due("mend nobody " + what, x.mend(nobody, what, 1), DebtSerenade.VOID);
            Check.due("mend -1 " + what, x.mend(-1, what, 1), DebtSerenade.VOID);
        }
        Check.due("what -1", x.mend(0, -1, 0), DebtSerenade.VOID);
        Check.due("what 8", x.mend(0, 8, 0), DebtSerenade.VOID);
        Check.due("of what 10", x.of(0, 10), DebtSerenade.VOID);
        Check.due("of what -1", x.of(0, -1), DebtSerenade.VOID);
        Check.due("changes", x.count(3), 16);
    }
}
