/** The sentences on deeds, images and changes that name a boundary: Terms, and promises 26 to 33. */
public final class EdgeDeedsTest {
    private static final int BAD = DebtSerenade.BAD, STATE = DebtSerenade.STATE;
    private static final int LEAST = Integer.MIN_VALUE, MOST = Integer.MAX_VALUE;
    private static final Twins EMPTY = new Twins("an empty lane", Lanes::empty);
    private static final Twins RICH = new Twins("a rich lane", Lanes::rich);
    private static final Twins FILLED = new Twins("a full lane", Lanes::full);

    public static void main(String[] args) {
        evening();
        lendRanges();
        lendPurse();
        lendSum();
        lendToTheTop();
        letOff();
        led();
        noImage();
        sinceTheImage();
        imageOfNothing();
        nothingToUndo();
        nothingToRedo();
        theSameNumber();
        fortyChanges();
        fortyUnlikeChanges();
        noOtherBehind();
        deedsAreNone();
        Check.finish();
    }

    private static void evening() {
        Check.says("An EVENING: a DEBT is sung (12: none): what is paid. BAD.");
        for (int debt : new int[] {-1, 13, LEAST, MOST}) {
            EMPTY.refuse("evening(" + debt + ")", BAD, x -> x.evening(debt));
            RICH.refuse("evening(" + debt + ")", BAD, x -> x.evening(debt));
            FILLED.refuse("evening(" + debt + ")", BAD, x -> x.evening(debt));
        }
        EMPTY.refuse("evening(0)", BAD, x -> x.evening(0));
        EMPTY.refuse("evening(11)", BAD, x -> x.evening(11));
        RICH.refuse("evening(5)", BAD, x -> x.evening(5));
        RICH.refuse("evening(11)", BAD, x -> x.evening(11));
        for (int debts = 0; debts <= 12; debts++) {
            for (int debt = 0; debt <= 13; debt++) {
                DebtSerenade x = Lanes.debts(debts);
                boolean so = debt < debts || debt == 12;
                String name = debt + " of " + debts;
                Check.due("evening, " + name, x.evening(debt), so ? 0 : BAD);
                Check.due("EVENING, " + name, x.of(0, 7), so ? 1 : 0);
                Check.due("evenings, " + name, x.led(0), so ? 1 : 0);
                Check.due("songs, " + name, x.led(1), so && debt != 12 ? 1 : 0);
            }
        }
        DebtSerenade x = new DebtSerenade();
        Check.due("in an empty lane", x.evening(12), 0);
        Check.due("EVENING", x.of(0, 7), 1);
    }

    private static void lendRanges() {
        Check.says("TO of a DEBT LENDS v (1 .. 999) more: SUM then. BAD; STATE: PURSE has not so much, or SUM would be"
            + " above 999.");
        for (int debt : new int[] {-1, 5, 12, LEAST, MOST}) {
            EMPTY.refuse("lend(" + debt + ", 1)", BAD, x -> x.lend(debt, 1));
            RICH.refuse("lend(" + debt + ", 1)", BAD, x -> x.lend(debt, 1));
            RICH.refuse("BAD ahead of STATE: lend(" + debt + ", 999)", BAD, x -> x.lend(debt, 999));
        }
        EMPTY.refuse("lend(0, 1)", BAD, x -> x.lend(0, 1));
        FILLED.refuse("lend(12, 1)", BAD, x -> x.lend(12, 1));
        for (int v : new int[] {0, -1, 1000, LEAST, MOST}) {
            RICH.refuse("lend(0, " + v + ")", BAD, x -> x.lend(0, v));
            RICH.refuse("BAD ahead of STATE: lend(3, " + v + ")", BAD, x -> x.lend(3, v));
            FILLED.refuse("lend(11, " + v + ")", BAD, x -> x.lend(11, v));
        }
        RICH.refuse("SUM is 999 already", STATE, x -> x.lend(3, 1));
        RICH.refuse("neither PURSE nor SUM", STATE, x -> x.lend(3, 999));
        DebtSerenade x = Lanes.pair(0);
        x.mend(1, 3, 999);
        Check.due("the least", x.lend(0, 1), 1);
        x.mend(1, 3, 999);
        x.mend(0, 5, 0);
        Check.due("the most", x.lend(0, 999), 999);
        Check.due("lent", x.led(3), 1000);
    }

    private static void lendPurse() {
        Check.says("STATE: PURSE has not so much");
        for (int purse : new int[] {0, 1, 2, 500, 998}) {
            Twins twins = new Twins("a purse of " + purse, () -> lender(purse, 0));
            twins.refuse("one more than he has", STATE, x -> x.lend(0, purse + 1));
            twins.refuse("999", STATE, x -> x.lend(0, 999));
            if (purse > 0) {
                DebtSerenade x = lender(purse, 0);
                Check.due("all that he has", x.lend(0, purse), purse);
                Check.due("none is left", x.of(1, 3), 0);
                Check.due("BY has it", x.of(0, 3), Math.min(999, 50 + purse));
                Check.due("no more then", x.lend(0, 1), STATE);
                x = lender(purse, 0);
                Check.due("one", x.lend(0, 1), 1);
                Check.due("one less", x.of(1, 3), purse - 1);
            }
        }
    }

    private static DebtSerenade lender(int purse, int sum) {
        DebtSerenade x = Lanes.pair(sum);
        x.mend(1, 3, purse);
        return x;
    }

    private static void lendSum() {
        Check.says("or SUM would be above 999.");
        for (int sum : new int[] {0, 1, 500, 998, 999}) {
            Twins twins = new Twins("a sum of " + sum, () -> lender(999, sum));
            if (sum > 0) {
                twins.refuse("one above 999", STATE, x -> x.lend(0, 1000 - sum));
                twins.refuse("far above", STATE, x -> x.lend(0, 999));
            }
            if (sum < 999) {
                DebtSerenade x = lender(999, sum);
                Check.due("to 999", x.lend(0, 999 - sum), 999);
                Check.due("sum", x.of(0, 5), 999);
                Check.due("purse", x.of(1, 3), sum);
                Check.due("lent", x.led(3), 999 - sum);
            }
        }
    }

    private static void lendToTheTop() {
        Check.says("his PURSE less, that of BY more, 999 at most");
        for (int purse : new int[] {0, 989, 990, 998, 999}) {
            DebtSerenade x = lender(50, 5);
            x.mend(0, 3, purse);
            Check.due("sum then", x.lend(0, 10), 15);
            Check.due("from " + purse, x.of(0, 3), Math.min(999, purse + 10));
            Check.due("his", x.of(1, 3), 40);
            Check.due("lent", x.led(3), 10);
        }
    }

    private static void letOff() {
        Check.says("A DEBT is let off: SUM till then. BAD.");
        for (int debt : new int[] {-1, 5, 12, LEAST, MOST}) {
            EMPTY.refuse("letOff(" + debt + ")", BAD, x -> x.letOff(debt));
            RICH.refuse("letOff(" + debt + ")", BAD, x -> x.letOff(debt));
        }
        EMPTY.refuse("letOff(0)", BAD, x -> x.letOff(0));
        FILLED.refuse("letOff(12)", BAD, x -> x.letOff(12));
        for (int sum : new int[] {0, 1, 999}) {
            DebtSerenade x = Lanes.pair(sum);
            Check.due("of " + sum, x.letOff(0), sum);
            Check.due("sum", x.of(0, 5), 0);
            Check.due("let off", x.led(4), sum);
            Check.due("again", x.letOff(0), 0);
            Check.due("let off", x.led(4), sum);
            Check.due("purses", x.of(0, 3) + x.of(1, 3), 100);
            Check.due("still there", x.count(1), 1);
        }
        DebtSerenade x = Lanes.debts(12);
        Check.due("the last", x.letOff(11), 21);
    }

    private static void led() {
        Check.says("LED: evenings (what 0), songs (1), paid (2), lent (3), let off (4). BAD.");
        for (int what : new int[] {-1, 5, LEAST, MOST}) {
            EMPTY.refuse("led(" + what + ")", BAD, x -> x.led(what));
            RICH.refuse("led(" + what + ")", BAD, x -> x.led(what));
        }
        for (int what = 0; what < 5; what++) {
            Check.due("at first", new DebtSerenade().led(what), 0);
            Check.due("of a rich lane", Lanes.rich().led(what), new int[] {2, 2, 5, 3, 1}[what]);
        }
        DebtSerenade x = Lanes.pair(999);
        for (int i = 0; i < 20; i++) {
            x.mend(0, 5, 999);
            x.letOff(0);
        }
        Check.due("above a sum's top", x.led(4), 19980);
    }

    private static void noImage() {
        Check.says("It is laid back (PEOPLE, DEBTS that came since as they are): evenings. STATE: there is none.");
        EMPTY.refuse("back()", STATE, DebtSerenade::back);
        Twins busy = new Twins("a lane without an image", EdgeDeedsTest::withoutImage);
        busy.refuse("back()", STATE, DebtSerenade::back);
        DebtSerenade x = withoutImage();
        Check.due("none", x.back(), STATE);
        Check.due("image", x.image(), 1);
        Check.due("now there is one", x.back(), 1);
        Check.due("and again", x.back(), 1);
    }

    private static DebtSerenade withoutImage() {
        DebtSerenade x = Lanes.pair(90);
        x.mend(0, 4, 60);
        x.evening(0);
        x.lend(0, 7);
        x.undo();
        return x;
    }

    private static void sinceTheImage() {
        Check.says("(PEOPLE, DEBTS that came since as they are)");
        for (int people = 0; people <= 8; people++) {
            DebtSerenade x = Lanes.people(people);
            for (int one = 0; one < people; one++) {
                x.mend(one, 3, 100 + one);
                x.mend(one, 4, 10 + one);
            }
            x.image();
            for (int one = people; one < 8; one++) {
                x.person(one);
            }
            for (int one = 0; one < 8; one++) {
                x.mend(one, 3, 700 + one);
                x.mend(one, 4, 70 + one);
            }
            Check.due("back", x.back(), 0);
            for (int one = 0; one < 8; one++) {
                String name = one + " with " + people + " there";
                Check.due("purse of " + name, x.of(one, 3), (one < people ? 100 : 700) + one);
                Check.due("moved of " + name, x.of(one, 4), (one < people ? 10 : 70) + one);
            }
        }
        for (int debts = 0; debts <= 12; debts++) {
            DebtSerenade x = Lanes.debts(debts);
            x.image();
            for (int debt = debts; debt < 12; debt++) {
                x.debt(1, 300 + debt);
            }
            for (int debt = 0; debt < debts; debt++) {
                x.letOff(debt);
            }
            Check.due("back", x.back(), 0);
            for (int debt = 0; debt < 12; debt++) {
                Check.due("sum of " + debt + " with " + debts + " there", x.of(debt, 5), (debt < debts ? 10 : 300) + debt);
            }
            Check.due("none goes", x.count(1), 12);
        }
    }

    private static void imageOfNothing() {
        Check.says("AN IMAGE is kept: evenings.");
        DebtSerenade x = new DebtSerenade();
        Check.due("of an empty lane", x.image(), 0);
        x.evening(12);
        x.person(3);
        Check.due("back", x.back(), 0);
        Check.due("EVENING", x.of(0, 7), 0);
        Check.due("who came since", x.of(0, 3), 50);
        x.mend(0, 7, 99);
        x.evening(12);
        Check.due("99 stays, but one evening was led", x.image(), 1);
        x.evening(12);
        x.mend(0, 7, 5);
        Check.due("back", x.back(), 1);
        Check.due("EVENING", x.of(0, 7), 99);
        Check.due("led", x.led(0), 1);
    }

    private static void nothingToUndo() {
        Check.says("UNDONE: how many may still be. STATE: none.");
        EMPTY.refuse("undo()", STATE, DebtSerenade::undo);
        Twins lane = new Twins("a lane without changes", () -> Lanes.debts(12));
        lane.refuse("undo()", STATE, DebtSerenade::undo);
        DebtSerenade x = Lanes.pair(5);
        x.mend(0, 1, 9);
        Check.due("one", x.undo(), 0);
        Check.due("none", x.undo(), STATE);
        Check.due("what was undone may be done again", x.redo(), 0);
        Check.due("one again", x.undo(), 0);
        Check.due("as at first", x.of(0, 1), 5);
    }

    private static void nothingToRedo() {
        Check.says("DONE AGAIN: how many may still be. STATE: none.");
        EMPTY.refuse("redo()", STATE, DebtSerenade::redo);
        FILLED.refuse("redo()", STATE, DebtSerenade::redo);
        DebtSerenade x = Lanes.pair(5);
        x.mend(0, 1, 9);
        Check.due("nothing was undone", x.redo(), STATE);
        Check.due("it stays", x.of(0, 1), 9);
        x.undo();
        Check.due("one", x.redo(), 0);
        Check.due("none", x.redo(), STATE);
        Check.due("one may be undone", x.count(3), 1);
    }

    private static void theSameNumber() {
        Check.says("CHANGES (all numbers of mend(); telling the same number is none)");
        for (int what = 0; what < 8; what++) {
            DebtSerenade x = Lanes.pair(5);
            int was = x.of(0, what);
            Check.due("the same", x.mend(0, what, was), was);
            Check.due("no change", x.count(3), 0);
            Check.due("nothing to undo", x.undo(), STATE);
            x.mend(0, what, 8);
            Check.due("a change", x.count(3), 1);
            x.mend(0, what, 8);
            Check.due("the same is none", x.count(3), 1);
            x.undo();
            Check.due("as it was", x.mend(0, what, was), was);
            Check.due("the same does not come behind", x.redo(), 0);
            Check.due("refused is none", x.mend(0, what, -1), DebtSerenade.VOID);
            Check.due("one change", x.count(3), 1);
            x.undo();
            Check.due("refused is none", x.mend(0, what, 1000), DebtSerenade.VOID);
            Check.due("what is refused does not come behind", x.redo(), 0);
            Check.due("done again", x.of(0, what), 8);
        }
    }

    private static void fortyChanges() {
        Check.says("40 at most are kept");
        for (int changes : new int[] {1, 39, 40, 41, 42, 80, 81}) {
            DebtSerenade x = Lanes.pair(5);
            for (int i = 1; i <= changes; i++) {
                x.mend(0, 3, 100 + i);
                Check.due("kept", x.count(3), Math.min(40, i));
            }
            int kept = Math.min(40, changes);
            for (int left = kept - 1; left >= 0; left--) {
                Check.due("undo", x.undo(), left);
                Check.due("kept", x.count(3), left);
            }
            Check.due("no more of " + changes, x.undo(), STATE);
            Check.due("as far back as is kept", x.of(0, 3), changes <= 40 ? 50 : 100 + changes - 40);
            for (int left = kept - 1; left >= 0; left--) {
                Check.due("redo", x.redo(), left);
            }
            Check.due("no more", x.redo(), STATE);
            Check.due("as it was told last", x.of(0, 3), 100 + changes);
        }
        DebtSerenade x = Lanes.pair(5);
        for (int i = 1; i <= 40; i++) {
            x.mend(0, 3, 100 + i);
        }
        x.undo();
        x.mend(1, 2, 1);
        Check.due("the fortieth anew", x.count(3), 40);
        for (int left = 39; left >= 0; left--) {
            Check.due("undo", x.undo(), left);
        }
        Check.due("the first is kept", x.of(0, 3), 50);
        Check.due("of the other", x.of(1, 2), 6);
    }

    /** Of changes that are unlike in all, each is undone and done again by its own number and values. */
    private static void fortyUnlikeChanges() {
        Check.says("40 at most are kept");
        int[][] told = new int[47][];
        DebtSerenade x = Lanes.debts(12);
        for (int i = 0; i < told.length; i++) {
            int what = i * 3 % 7 < 6 ? i * 3 % 7 : i % 2 + 6;
            int number = what < 5 ? i * 5 % 8 : what == 5 ? i * 5 % 12 : 0;
            int v = (x.of(number, what) + 3 + i % 4) % 9;
            told[i] = new int[] {number, what, x.of(number, what), v};
            Check.due("mend", x.mend(number, what, v), told[i][2]);
        }
        for (int i = 46; i >= 7; i--) {
            Check.due("undo", x.undo(), i - 7);
            Check.due("undone " + i, x.of(told[i][0], told[i][1]), told[i][2]);
        }
        Check.due("no more", x.undo(), STATE);
        Check.due("the last that is lost", x.of(told[6][0], told[6][1]), told[6][3]);
        for (int i = 7; i < 47; i++) {
            Check.due("redo", x.redo(), 46 - i);
            Check.due("done again " + i, x.of(told[i][0], told[i][1]), told[i][3]);
        }
        Check.due("no more", x.redo(), STATE);
    }

    private static void noOtherBehind() {
        Check.says("can be UNDONE, the latest first, and DONE AGAIN (as long as no other came behind)");
        DebtSerenade x = Lanes.pair(5);
        x.mend(0, 3, 60);
        x.mend(0, 3, 70);
        x.mend(0, 1, 9);
        Check.due("the latest first", x.undo(), 2);
        Check.due("voice", x.of(0, 1), 5);
        Check.due("purse", x.of(0, 3), 70);
        Check.due("then the one ahead", x.undo(), 1);
        Check.due("purse", x.of(0, 3), 60);
        Check.due("done again", x.redo(), 1);
        Check.due("purse", x.of(0, 3), 70);
        x.mend(1, 1, 8);
        Check.due("another came behind", x.redo(), STATE);
        Check.due("voice", x.of(0, 1), 5);
        Check.due("three may be undone", x.undo(), 2);
        Check.due("the other's voice", x.of(1, 1), 5);
        Check.due("and done again", x.redo(), 0);
        Check.due("the other's voice", x.of(1, 1), 8);
    }

    private static void deedsAreNone() {
        Check.says("deeds are none (PURSE, MOVED, SUM, EVENING by them, too).");
        DebtSerenade x = Lanes.pair(90);
        x.mend(0, 4, 60);
        x.mend(0, 4, 70);
        x.undo();
        x.evening(0);
        x.evening(12);
        x.lend(0, 5);
        x.letOff(0);
        x.image();
        x.back();
        x.person(3);
        x.debt(10, 4);
        Check.due("one change still", x.count(3), 1);
        Check.due("moved by deeds: 67 less 10, less 1", x.of(0, 4), 56);
        Check.due("no deed came behind", x.redo(), 0);
        Check.due("as it was told", x.of(0, 4), 70);
        Check.due("undone", x.undo(), 1);
        Check.due("as it was when it was told", x.of(0, 4), 60);
        Check.due("undone", x.undo(), 0);
        Check.due("as at first", x.of(0, 4), 0);
        Check.due("SUM by deeds stays", x.of(0, 5), 0);
        Check.due("PURSE by deeds stays", x.of(1, 3), 51);
        Check.due("EVENING by deeds stays", x.of(0, 7), 2);
        Check.due("led stays", x.led(2), 6);
    }
}
