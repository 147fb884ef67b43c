/** Promises 13 to 18: above, richest, round, settle, best, help. */
public final class SumsTest {
    public static void main(String[] args) {
        aboveAndRichest();
        round();
        settle();
        best();
        help();
        Check.finish();
    }

    private static DebtSerenade lane(int people, int... debts) {
        DebtSerenade x = new DebtSerenade();
        for (int i = 0; i < people; i++) {
            Check.due("person", x.person(2 * i), i);
        }
        for (int i = 0; i < debts.length; i += 2) {
            Check.due("debt", x.debt(debts[i], debts[i + 1]), i / 2);
        }
        return x;
    }

    private static void aboveAndRichest() {
        DebtSerenade x = new DebtSerenade();
        Check.due("nobody", x.richest(), DebtSerenade.NOT);
        Check.due("nobody", x.above(0), DebtSerenade.VOID);
        x = lane(3, 1, 30, 12, 31, 20, 29, 21, 0);
        Check.due("above(0)", x.above(0), -1);
        Check.due("above(1)", x.above(1), -1);
        Check.due("above(2)", x.above(2), 2);
        Check.due("above(-1)", x.above(-1), DebtSerenade.VOID);
        Check.due("above(3)", x.above(3), DebtSerenade.VOID);
        Check.due("richest", x.richest(), 2);
        x.mend(0, 3, 53);
        Check.due("of like ones the least", x.richest(), 0);
        x.mend(1, 3, 54);
        Check.due("richest", x.richest(), 1);
        x.mend(0, 3, 0);
        x.mend(1, 3, 0);
        x.mend(2, 3, 0);
        x.mend(0, 5, 999);
        x.mend(2, 5, 0);
        x.mend(1, 5, 999);
        Check.due("above", x.above(0), -999);
        Check.due("richest", x.richest(), 2);
    }

    private static void round() {
        DebtSerenade x = lane(4, 1, 10, 12, 20);
        Check.due("BAD", x.round(-1), DebtSerenade.BAD);
        Check.due("BAD", x.round(3), DebtSerenade.BAD);
        Check.due("none", x.round(0), DebtSerenade.NOT);
        Check.due("none", x.round(1), DebtSerenade.NOT);
        Check.due("none", x.round(2), DebtSerenade.NOT);
        x.debt(20, 5);
        Check.due("three", x.round(0), 3);
        Check.due("which", x.round(1), 7);
        Check.due("cancel", x.round(2), 5);
        Check.due("nothing is taken off", x.of(2, 5), 5);
        x.debt(30, 7);
        x.debt(3, 8);
        Check.due("two", x.round(0), 2);
        Check.due("which", x.round(1), 24);
        Check.due("cancel", x.round(2), 7);
        x.debt(10, 999);
        Check.due("of like ones the least", x.round(1), 24);
        x.mend(3, 5, 0);
        Check.due("those above 0", x.round(1), 33);
        Check.due("cancel", x.round(2), 10);
        x.letOff(0);
        Check.due("none of 0", x.round(0), DebtSerenade.NOT);
        x = lane(8, 1, 1, 12, 1, 23, 1, 34, 1, 45, 1, 56, 1, 67, 1, 70, 1);
        Check.due("all eight", x.round(0), 8);
        Check.due("which", x.round(1), 255);
    }

    private static void settle() {
        Check.due("nobody", new DebtSerenade().settle(), 0);
        Check.due("no debts", lane(8).settle(), 0);
        Check.due("one", lane(2, 1, 5).settle(), 1);
        Check.due("cancel", lane(2, 1, 5, 10, 5).settle(), 0);
        Check.due("ring", lane(3, 1, 5, 12, 5, 20, 5).settle(), 0);
        Check.due("chain", lane(3, 1, 5, 12, 5).settle(), 1);
        Check.due("two pairs", lane(4, 1, 5, 23, 7).settle(), 2);
        Check.due("two pairs, however they owe", lane(4, 1, 5, 23, 7, 2, 1, 31, 1).settle(), 2);
        Check.due("one group of four", lane(4, 1, 5, 23, 7, 2, 1, 31, 2).settle(), 3);
        Check.due("all owe one", lane(8, 10, 1, 20, 2, 30, 3, 40, 4, 50, 5, 60, 6, 70, 7).settle(), 7);
        // above: -3 -4 +7, -5 -6 +11: two groups of three, and one at 0
        Check.due("two groups", lane(7, 2, 3, 12, 4, 35, 5, 45, 6).settle(), 4);
        // above: -6 -1 +3 +4: 6 = 3 + 4 - 1 only
        Check.due("one group", lane(4, 2, 3, 3, 3, 13, 1).settle(), 3);
    }

    private static void best() {
        DebtSerenade x = new DebtSerenade();
        Check.due("t -1", x.best(-1, -1), DebtSerenade.BAD);
        Check.due("t 5", x.best(5, -1), DebtSerenade.BAD);
        Check.due("k -2", x.best(2, -2), DebtSerenade.BAD);
        Check.due("k t", x.best(2, 2), DebtSerenade.BAD);
        Check.due("t 0", x.best(0, -1), 0);
        Check.due("t 0, k 0", x.best(0, 0), DebtSerenade.BAD);
        Check.due("no debts", x.best(3, 2), 12);
        Check.due("no debts", x.best(3, -1), 0);
        x = lane(4, 10, 100, 23, 100, 31, 2);
        x.mend(1, 4, 40);
        x.mend(2, 4, 55);
        // by 7: debt 0 pays 4 at once, debt 1 pays 6
        Check.due("one evening", x.best(1, -1), 6);
        Check.due("one evening", x.best(1, 0), 1);
        // 1 twice: 62 pays 6, 59 pays 5; with 0 for one of them it is 10
        Check.due("two evenings", x.best(2, -1), 11);
        Check.due("two evenings", x.best(2, 0), 1);
        Check.due("two evenings", x.best(2, 1), 1);
        x.mend(2, 3, 6);
        Check.due("purse ends", x.best(2, -1), 10);
        Check.due("of like ones", x.best(2, 0), 0);
        Check.due("of like ones", x.best(2, 1), 1);
        Check.due("law", Check.law(x, "e>0?99"), 1);
        x.mend(0, 5, 0);
        x.mend(1, 5, 0);
        Check.due("the sum ends", x.best(2, -1), 2);
        Check.due("least numbers, waiting by a debt of 0", x.best(2, 0), 0);
        Check.due("then it pays", x.best(2, 1), 2);
        x.mend(0, 5, 9);
        x.mend(1, 4, 0);
        x.mend(2, 4, 0);
        Check.due("both", x.best(4, -1), 11);
        Check.due("0, 0, 0, 2", x.best(4, 0), 0);
        Check.due("0, 0, 0, 2", x.best(4, 1), 0);
        Check.due("0, 0, 0, 2", x.best(4, 2), 0);
        Check.due("0, 0, 0, 2", x.best(4, 3), 2);
        Check.due("nothing changed", x.of(0, 5), 9);
        Check.due("nothing changed", x.of(0, 7), 0);
        silence();
    }

    /** A song that moves nobody keeps m from falling; here silence is what helps, for a law by m. */
    private static void silence() {
        DebtSerenade x = lane(2, 1, 50);
        x.mend(0, 4, 11);
        Check.due("law", Check.law(x, "m=10?80;m=11?0"), 1);
        Check.due("paid", x.best(2, -1), 9);
        Check.due("silence first", x.best(2, 0), 12);
        Check.due("then the song", x.best(2, 1), 0);
        Check.due("nothing by one", x.best(1, -1), 0);
        Check.due("12 last", x.best(1, 0), 0);
    }

    private static void help() {
        DebtSerenade x = lane(3);
        Check.due("no debts", x.help(0), DebtSerenade.NOT);
        Check.due("no debts", x.help(1), DebtSerenade.NOT);
        Check.due("BAD first", x.help(2), DebtSerenade.VOID);
        Check.due("BAD first", x.help(-1), DebtSerenade.VOID);
        x.debt(1, 40);
        x.debt(12, 70);
        // worths: 10, 20, 120; without 0: 50, -20, 120; without 1: 10, 90, 50
        Check.due("which", x.help(0), 1);
        Check.due("that then", x.help(1), 10);
        x.debt(21, 0);
        Check.due("of like ones the least", x.help(0), 1);
        x.mend(0, 5, 100);
        // worths: -50, 80, 120; without 0: 50, -20, 120
        Check.due("which", x.help(0), 0);
        Check.due("below 0", x.help(1), -20);
        Check.due("nothing changed", x.of(0, 5), 100);
    }
}
