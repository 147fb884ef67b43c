/** Lanes that the tests start from: an empty one, one with some of all, one that is full of all. */
final class Lanes {
    static final int[] HOUSES = {0, 3, 4, 9, 15};

    private Lanes() {
    }

    static DebtSerenade empty() {
        return new DebtSerenade();
    }

    /** So many people, in houses 0, 1, 2 and so on. */
    static DebtSerenade people(int many) {
        DebtSerenade x = new DebtSerenade();
        for (int one = 0; one < many; one++) {
            Check.due("person " + one, x.person(one), one);
        }
        return x;
    }

    /** Two people far from each other; 0 owes 1 a sum. */
    static DebtSerenade pair(int sum) {
        DebtSerenade x = new DebtSerenade();
        Check.people(x, 1, 9);
        Check.due("debt", x.debt(1, sum), 0);
        return x;
    }

    /** Eight people, and so many DEBTS of 10, 11, 12 and so on. */
    static DebtSerenade debts(int many) {
        DebtSerenade x = people(8);
        for (int debt = 0; debt < many; debt++) {
            int by = debt % 8;
            Check.due("debt " + debt, x.debt(10 * by + (by + 1 + debt / 8) % 8, 10 + debt), debt);
        }
        return x;
    }

    /**
     * Five people, five DEBTS; six changes that may be undone and two that may be done again; a law, and a tape that
     * goes on; an image, and deeds since; eight bodies, and a trace; SHELVES: SONGS, a LEDGER, a TUNE, nothing, longs,
     * booleans.
     */
    static DebtSerenade rich() {
        DebtSerenade x = new DebtSerenade();
        Check.people(x, HOUSES);
        int[][] debts = {{1, 40}, {12, 0}, {20, 25}, {34, 999}, {43, 1}};
        for (int[] debt : debts) {
            x.debt(debt[0], debt[1]);
        }
        Check.due("law", Check.law(x, "v+h/2"), 1);
        int[][] changes = {{0, 4, 50}, {1, 3, 300}, {2, 1, 9}, {3, 2, 12}, {0, 6, 3}, {0, 7, 20}, {2, 5, 30}, {0, 0, 1}};
        for (int[] change : changes) {
            x.mend(change[0], change[1], change[2]);
        }
        Check.due("undo", x.undo(), 7);
        Check.due("undo", x.undo(), 6);
        for (int kind = 0; kind < 8; kind++) {
            x.body(kind);
        }
        Check.row(x, 0, 0, 0, 2, 12, 3, 5);
        Check.row(x, 1, 1, 0, 0, 1, 2, 10);
        Check.due("keep", x.keep(2, 7), 1);
        Check.row(x, 4, 3, Long.MAX_VALUE, Long.MIN_VALUE, 7);
        Check.row(x, 5, 4, 1, 0);
        Check.due("evening pays", x.evening(0), 5);
        Check.due("image", x.image(), 1);
        x.evening(2);
        Check.due("lend", x.lend(0, 3), 38);
        Check.due("let off", x.letOff(4), 1);
        x.act(7, 3, 5);
        Check.due("trace", x.count(5), 14);
        for (char sign : "h*2+".toCharArray()) {
            x.feed(sign);
        }
        return x;
    }

    /** All that has a limit is at it: eight people, 12 DEBTS, 120 bytes, 40 changes, 50 bodies; nothing on SHELF 3. */
    static DebtSerenade full() {
        DebtSerenade x = debts(12);
        for (int i = 0; i < 43; i++) {
            x.mend(i % 8, 3, 100 + i);
        }
        for (int i = 0; i < 120; i++) {
            x.feed(i % 2 == 0 ? '1' : '+');
        }
        for (int i = 0; i < 50; i++) {
            x.body(i % 8);
        }
        int[] sorts = {0, 1, -1, -1, 2, 3};
        for (int shelf = 0; shelf < 6; shelf++) {
            if (sorts[shelf] >= 0) {
                x.row(shelf, sorts[shelf], 60);
                x.put(shelf, 59, 5);
            }
        }
        x.keep(2, 49);
        x.evening(3);
        x.image();
        x.act(47, 3, 9);
        return x;
    }
}
