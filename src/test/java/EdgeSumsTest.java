/** The sentences on sums, rounds and the songs that pay most that name a boundary: Terms, and promises 13 to 18. */
public final class EdgeSumsTest {
    private static final int BAD = DebtSerenade.BAD, NOT = DebtSerenade.NOT, VOID = DebtSerenade.VOID;
    private static final int LEAST = Integer.MIN_VALUE, MOST = Integer.MAX_VALUE;
    private static final Twins EMPTY = new Twins("an empty lane", Lanes::empty);
    private static final Twins RICH = new Twins("a rich lane", Lanes::rich);
    private static final Twins FILLED = new Twins("a full lane", Lanes::full);

    public static void main(String[] args) {
        aboveWhom();
        aboveAll();
        richest();
        roundWhat();
        roundAboveZero();
        roundFewest();
        cancel();
        settle();
        bestHowMany();
        bestMost();
        bestOfLikeOnes();
        helpWhat();
        helpWhich();
        Check.finish();
    }

    private static DebtSerenade lane(int people, int... debts) {
        DebtSerenade x = Lanes.people(people);
        for (int i = 0; i < debts.length; i += 2) {
            Check.due("debt", x.debt(debts[i], debts[i + 1]), i / 2);
        }
        return x;
    }

    private static void aboveWhom() {
        Check.says("ABOVE. VOID: BAD.");
        for (int one : new int[] {-1, 8, LEAST, MOST}) {
            EMPTY.refuse("above(" + one + ")", VOID, x -> x.above(one));
            RICH.refuse("above(" + one + ")", VOID, x -> x.above(one));
            FILLED.refuse("above(" + one + ")", VOID, x -> x.above(one));
        }
        EMPTY.refuse("above(0)", VOID, x -> x.above(0));
        RICH.refuse("above(5)", VOID, x -> x.above(5));
        DebtSerenade x = lane(8, 7, 5, 70, 3);
        Check.due("the first", x.above(0), -2);
        Check.due("the last", x.above(7), 2);
        Check.due("who owes nobody", x.above(3), 0);
    }

    private static void aboveAll() {
        Check.says("ABOVE: what others owe one less what one owes, all DEBTS.");
        DebtSerenade x = Lanes.people(2);
        for (int debt = 0; debt < 12; debt++) {
            x.debt(1, 999);
            Check.due("to", x.above(1), 999 * (debt + 1));
            Check.due("by", x.above(0), -999 * (debt + 1));
        }
        for (int debt = 0; debt < 12; debt++) {
            x.letOff(debt);
            Check.due("let off", x.above(1), 999 * (11 - debt));
        }
    }

    private static void richest() {
        Check.says("RICHEST. NOT.");
        EMPTY.refuse("richest()", NOT, DebtSerenade::richest);
        Check.due("somebody", Lanes.people(1).richest(), 0);
        Check.says("RICHEST: who has most of PURSE and ABOVE (of like ones the least; NOT: nobody).");
        for (int people = 1; people <= 8; people++) {
            DebtSerenade x = Lanes.people(people);
            Check.due("all alike", x.richest(), 0);
            for (int one = 0; one < people; one++) {
                x.mend(one, 3, 51 + one);
                Check.due("one more", x.richest(), one);
            }
            for (int one = people - 2; one >= 0; one--) {
                x.mend(one, 3, 50 + people);
                Check.due("as much", x.richest(), one);
            }
        }
        DebtSerenade x = lane(2, 1, 999);
        x.mend(1, 3, 0);
        x.mend(0, 3, 999);
        Check.due("0 and 999", x.richest(), 1);
        x.mend(0, 3, 0);
        x.mend(0, 5, 0);
        Check.due("all have 0", x.richest(), 0);
        x.mend(0, 5, 1);
        Check.due("-1 and 1", x.richest(), 1);
    }

    private static void roundWhat() {
        Check.says("ROUND: how many (what 0), which (1), CANCEL (2). BAD; NOT.");
        for (int what : new int[] {-1, 3, LEAST, MOST}) {
            EMPTY.refuse("BAD ahead of NOT: round(" + what + ")", BAD, x -> x.round(what));
            RICH.refuse("round(" + what + ")", BAD, x -> x.round(what));
            FILLED.refuse("round(" + what + ")", BAD, x -> x.round(what));
        }
        for (int what = 0; what < 3; what++) {
            int w = what;
            EMPTY.refuse("round(" + w + ")", NOT, x -> x.round(w));
            RICH.refuse("round(" + w + ")", NOT, x -> x.round(w));
            Check.due("one debt", lane(2, 1, 5).round(what), NOT);
            Check.due("twice the same way", lane(2, 1, 5, 1, 5).round(what), NOT);
            Check.due("a chain of eight", lane(8, 1, 5, 12, 5, 23, 5, 34, 5, 45, 5, 56, 5, 67, 5).round(what), NOT);
            Check.due("two ways to one", lane(4, 1, 5, 2, 5, 13, 5, 23, 5).round(what), NOT);
        }
    }

    private static void roundAboveZero() {
        Check.says("ROUND: the fewest DEBTS above 0 that go round (BY to TO, then BY him)");
        DebtSerenade x = lane(2, 1, 1, 10, 1);
        Check.due("of 1 each", x.round(0), 2);
        Check.due("which", x.round(1), 3);
        x.mend(0, 5, 0);
        Check.due("one is 0", x.round(0), NOT);
        x.mend(0, 5, 1);
        x.mend(1, 5, 0);
        Check.due("the other is 0", x.round(0), NOT);
        x.mend(1, 5, 999);
        Check.due("1 and 999", x.round(0), 2);
    }

    private static void roundFewest() {
        Check.says("how many; which (bits; of like ones the least); NOT.");
        for (int many = 2; many <= 8; many++) {
            DebtSerenade x = Lanes.people(8);
            for (int one = 0; one < many; one++) {
                x.debt(10 * one + (one + 1) % many, 5);
            }
            Check.due("a round of " + many, x.round(0), many);
            Check.due("which", x.round(1), (1 << many) - 1);
        }
        DebtSerenade x = lane(8, 1, 5, 12, 5, 23, 5, 30, 5, 45, 5, 56, 5, 64, 5, 67, 5, 76, 5);
        Check.due("four, three and two", x.round(0), 2);
        Check.due("the fewest, not the least bits", x.round(1), 128 + 256);
        x.letOff(8);
        Check.due("three", x.round(1), 16 + 32 + 64);
        x.letOff(6);
        Check.due("four", x.round(1), 15);
        x.letOff(3);
        Check.due("none", x.round(1), NOT);
        x = Lanes.people(2);
        for (int debt = 0; debt < 12; debt++) {
            x.debt(debt < 6 ? 1 : 10, 5);
        }
        Check.due("of like ones the least", x.round(1), 1 + 64);
        x.letOff(0);
        Check.due("then", x.round(1), 2 + 64);
        x.letOff(6);
        Check.due("then", x.round(1), 2 + 128);
        x = Lanes.people(8);
        for (int debt = 0; debt < 10; debt++) {
            x.debt(1, 5);
        }
        x.debt(67, 5);
        x.debt(76, 5);
        Check.due("the last two", x.round(1), 1024 + 2048);
    }

    private static void cancel() {
        Check.says("CANCEL: by how much the least of those is, taken off all of them.");
        Check.due("1", lane(2, 1, 1, 10, 999).round(2), 1);
        Check.due("999", lane(2, 1, 999, 10, 999).round(2), 999);
        Check.due("the last", lane(3, 1, 9, 12, 8, 20, 7).round(2), 7);
        Check.due("the first", lane(3, 1, 7, 12, 8, 20, 9).round(2), 7);
        Check.due("those of the round alone", lane(3, 1, 7, 12, 1, 10, 9).round(2), 7);
    }

    private static void settle() {
        Check.says("`int settle()`: SETTLE.");
        EMPTY.refuse("settle()", 0, DebtSerenade::settle);
        Check.due("the most", lane(8, 1, 1, 2, 2, 3, 4, 4, 8, 5, 16, 6, 32, 7, 64).settle(), 7);
        Check.says("SETTLE: the fewest payments, of one to another, that make ABOVE of all 0: how many (payments of any"
            + " size; as if PURSES were full).");
        for (int people = 0; people <= 8; people++) {
            Check.due("no debts", Lanes.people(people).settle(), 0);
        }
        Check.due("one of 999", lane(2, 1, 999).settle(), 1);
        Check.due("of 0", lane(2, 1, 0).settle(), 0);
        Check.due("all cancel", lane(2, 1, 7, 10, 7).settle(), 0);
        Check.due("1 is left", lane(2, 1, 7, 10, 8).settle(), 1);
        for (int others = 1; others <= 7; others++) {
            DebtSerenade x = Lanes.people(8);
            for (int one = 1; one <= others; one++) {
                x.debt(10 * one, 1 << one - 1);
            }
            Check.due("all owe one", x.settle(), others);
            for (int one = 0; one < 8; one++) {
                x.mend(one, 3, 0);
            }
            Check.due("whatever the purses", x.settle(), others);
        }
        Check.due("four pairs", lane(8, 1, 1, 23, 2, 45, 4, 67, 8).settle(), 4);
        Check.due("twelve debts, one payment", rounds(7).settle(), 1);
        Check.due("twelve debts, none", rounds(5).settle(), 0);
        Check.due("more than a debt's top", lane(3, 1, 999, 1, 999, 12, 999).settle(), 2);
    }

    /** 0 and 1 owe each other twelve sums, all of 5 but the last. */
    private static DebtSerenade rounds(int last) {
        DebtSerenade x = Lanes.people(2);
        for (int debt = 0; debt < 12; debt++) {
            x.debt(debt % 2 == 0 ? 1 : 10, debt < 11 ? 5 : last);
        }
        return x;
    }

    private static void bestHowMany() {
        Check.says("BEST: that (k -1), the k-th (0 .. t less 1). BAD.");
        for (int t = -1; t <= 5; t++) {
            for (int k = -2; k <= 5; k++) {
                int many = t;
                int place = k;
                if (t < 0 || t > 4 || k < -1 || k >= t) {
                    EMPTY.refuse("best(" + t + ", " + k + ")", BAD, x -> x.best(many, place));
                    RICH.refuse("best(" + t + ", " + k + ")", BAD, x -> x.best(many, place));
                } else {
                    Check.due("best(" + t + ", " + k + ")", new DebtSerenade().best(t, k), k < 0 ? 0 : 12);
                }
            }
        }
        for (int far : new int[] {LEAST, MOST}) {
            RICH.refuse("t " + far, BAD, x -> x.best(far, -1));
            RICH.refuse("t " + far, BAD, x -> x.best(far, 0));
            RICH.refuse("k " + far, BAD, x -> x.best(4, far));
        }
        Check.due("of a rich lane for no evenings", Lanes.rich().best(0, -1), 0);
    }

    private static void bestMost() {
        Check.says("BEST: for t (0 .. 4) evenings the SONGS (a DEBT, or 12) by which most is paid in all: that");
        DebtSerenade x = Lanes.debts(12);
        Check.due("law", Check.law(x, "99"), 1);
        for (int debt = 0; debt < 11; debt++) {
            x.mend(debt, 5, 0);
        }
        x.mend(11, 5, 999);
        for (int t = 0; t <= 4; t++) {
            Check.due("for " + t, x.best(t, -1), 9 * t);
            for (int k = 0; k < t; k++) {
                Check.due("song " + k + " of " + t, x.best(t, k), 11);
            }
        }
        x.mend(11, 5, 19);
        int[] paid = {0, 9, 18, 19, 19};
        for (int t = 0; t <= 4; t++) {
            Check.due("of 19 for " + t, x.best(t, -1), paid[t]);
            Check.due("the last of " + t, x.best(t, t - 1), t == 0 ? 0 : 11);
        }
        Check.due("one evening to spare", x.best(4, 0), 0);
        Check.due("then all of it", x.best(4, 1), 11);
    }

    private static void bestOfLikeOnes() {
        Check.says("the k-th (of like ones the least numbers first, 12 last)");
        DebtSerenade x = Lanes.debts(12);
        Check.due("law", Check.law(x, "0"), 1);
        for (int t = 1; t <= 4; t++) {
            Check.due("nothing is paid", x.best(t, -1), 0);
            for (int k = 0; k < t; k++) {
                Check.due("the least numbers", x.best(t, k), 0);
            }
        }
        DebtSerenade y = Lanes.people(3);
        for (int t = 1; t <= 4; t++) {
            Check.due("no debts", y.best(t, t - 1), 12);
        }
        x.mend(7, 4, 99);
        Check.due("of two that pay as much", x.best(1, 0), 7);
        x.mend(3, 4, 95);
        Check.due("the least", x.best(1, 0), 3);
        Check.due("both of them", x.best(2, -1), 18);
        Check.due("the least first", x.best(2, 0), 3);
        Check.due("then the other", x.best(2, 1), 7);
        x.mend(3, 4, 90);
        // 3 first, as it is below 90 then
        Check.due("the least first", x.best(2, 0), 3);
        x.mend(3, 4, 89);
        x.mend(7, 4, 90);
        Check.due("9 and 8", x.best(2, -1), 17);
        Check.due("7 first", x.best(2, 0), 7);
        Check.due("then 3", x.best(2, 1), 3);
    }

    private static void helpWhat() {
        Check.says("HELP: which (what 0), that (1). VOID: BAD; NOT.");
        for (int what : new int[] {-1, 2, LEAST, MOST}) {
            EMPTY.refuse("BAD ahead of NOT: help(" + what + ")", VOID, x -> x.help(what));
            RICH.refuse("help(" + what + ")", VOID, x -> x.help(what));
            FILLED.refuse("help(" + what + ")", VOID, x -> x.help(what));
        }
        Check.says("(of like ones the least): which; that then; NOT: no DEBTS.");
        for (int what = 0; what < 2; what++) {
            int w = what;
            EMPTY.refuse("help(" + w + ")", NOT, x -> x.help(w));
            Check.due("people, no debts", Lanes.people(8).help(what), NOT);
            Check.due("a debt of 0", lane(2, 1, 0).help(what), what == 0 ? 0 : 50);
        }
    }

    private static void helpWhich() {
        Check.says("HELP: which DEBT, let off (SUM 0), makes PURSE and ABOVE of him who has least of all most");
        DebtSerenade x = Lanes.people(3);
        for (int debt = 0; debt < 12; debt++) {
            x.debt(1, 5);
        }
        // 0 has 50 less 60; each would help by 5
        Check.due("of like ones the least", x.help(0), 0);
        Check.due("that", x.help(1), -5);
        x.mend(11, 5, 6);
        Check.due("the last", x.help(0), 11);
        Check.due("that", x.help(1), -5);
        x.mend(10, 5, 6);
        Check.due("of like ones the least", x.help(0), 10);
        Check.due("that", x.help(1), -6);
        DebtSerenade y = lane(3, 1, 51, 12, 0);
        y.mend(2, 3, 0);
        // worths: -1, 101, 0; without 0: 50, 50, 0
        Check.due("him who has least then", y.help(1), 0);
        y.mend(2, 3, 20);
        Check.due("of another", y.help(1), 20);
        y.mend(0, 3, 0);
        y.mend(1, 3, 0);
        y.mend(2, 3, 0);
        y.mend(0, 5, 999);
        y.mend(1, 5, 999);
        // 0 owes 1 and 1 owes 2 999: without 0 1 has -999, without 1 0 has
        Check.due("as bad by each", y.help(0), 0);
        Check.due("that", y.help(1), -999);
        DebtSerenade z = Lanes.people(2);
        for (int debt = 0; debt < 12; debt++) {
            z.debt(1, 999);
        }
        z.mend(0, 3, 0);
        Check.due("the least that can be", z.help(1), -999 * 11);
    }
}
