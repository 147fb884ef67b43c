/** The sentences on AN EVENING and on SONGS that name a boundary: Terms, and promises 10 to 12. */
public final class EdgeEveningsTest {
    private static final int BAD = DebtSerenade.BAD, NOT = DebtSerenade.NOT;
    private static final int LEAST = Integer.MIN_VALUE, MOST = Integer.MAX_VALUE;
    private static final Twins EMPTY = new Twins("an empty lane", Lanes::empty);
    private static final Twins RICH = new Twins("a rich lane", Lanes::rich);
    private static final Twins FILLED = new Twins("a full lane", Lanes::full);

    public static void main(String[] args) {
        movedEnough();
        sumAndPurse();
        aboveThePurse();
        lessMoved();
        othersCool();
        eveningStays();
        eveningStaysInThought();
        whatIsASong();
        fortySongs();
        firstSongs();
        later();
        paid();
        zeroBits();
        firstPaying();
        paidOff();
        Check.finish();
    }

    /** A pair of whom 0 is MOVED by so much, under a law that moves nobody. */
    private static DebtSerenade pair(int moved, int sum, int purse, int purseOfTo) {
        DebtSerenade x = Lanes.pair(sum);
        x.mend(0, 4, moved);
        x.mend(0, 3, purse);
        x.mend(1, 3, purseOfTo);
        Check.due("law", Check.law(x, "0"), 1);
        Check.row(x, 0, 0, 0);
        return x;
    }

    private static void movedEnough() {
        Check.says("then, if he is MOVED by 20 or more, he pays of that DEBT as much as MOVED by 10 (cut)");
        for (int moved = 0; moved <= 99; moved++) {
            int pays = moved < 20 ? 0 : moved / 10;
            DebtSerenade x = pair(moved, 500, 500, 500);
            Check.due("in thought by " + moved, x.paid(0, 1, 0), pays);
            Check.due("in deed by " + moved, x.evening(0), pays);
            Check.due("sum", x.of(0, 5), 500 - pays);
        }
        DebtSerenade x = Lanes.pair(500);
        x.mend(0, 4, 12);
        Check.due("12 and 7", x.evening(0), 0);
        x.mend(0, 4, 13);
        Check.due("13 and 7", x.evening(0), 2);
    }

    private static void sumAndPurse() {
        Check.says("no more than SUM and PURSE: SUM and his PURSE are so much less");
        int[] some = {0, 1, 2, 8, 9, 10, 999};
        for (int sum : some) {
            for (int purse : some) {
                int pays = Math.min(9, Math.min(sum, purse));
                DebtSerenade x = pair(99, sum, purse, 0);
                String name = "sum " + sum + ", purse " + purse;
                Check.due("in thought, " + name, x.paid(0, 1, 0), pays);
                Check.due("sum in thought, " + name, x.later(0, 1, 0, 0), sum - pays);
                Check.due("in deed, " + name, x.evening(0), pays);
                Check.due("sum, " + name, x.of(0, 5), sum - pays);
                Check.due("his purse, " + name, x.of(0, 3), purse - pays);
                Check.due("the other's purse, " + name, x.of(1, 3), pays);
                Check.due("moved, " + name, x.of(0, 4), pays > 0 ? 89 : 99);
            }
        }
    }

    private static void aboveThePurse() {
        Check.says("PURSE of TO so much more (999 at most; what is above is lost)");
        for (int purse : new int[] {0, 989, 990, 991, 998, 999}) {
            DebtSerenade x = pair(99, 500, 500, purse);
            int then = Math.min(999, purse + 9);
            Check.due("in thought", x.later(0, 1, 1, 1), then);
            Check.due("all is paid", x.evening(0), 9);
            Check.due("his purse", x.of(0, 3), 491);
            Check.due("sum", x.of(0, 5), 491);
            Check.due("purse of TO from " + purse, x.of(1, 3), then);
            Check.due("led", x.led(2), 9);
        }
    }

    private static void lessMoved() {
        Check.says("if he paid something, MOVED is 10 less (0 at least).");
        for (int moved : new int[] {19, 20, 29, 30, 99}) {
            DebtSerenade x = pair(moved, 1, 500, 0);
            Check.due("in thought", x.later(0, 1, 0, 2), moved < 20 ? moved : moved - 10);
            x.evening(0);
            Check.due("paid by " + moved, x.of(0, 4), moved < 20 ? moved : moved - 10);
            x = pair(moved, 0, 500, 0);
            x.evening(0);
            Check.due("no sum by " + moved, x.of(0, 4), moved);
            x = pair(moved, 500, 0, 0);
            x.evening(0);
            Check.due("no purse by " + moved, x.of(0, 4), moved);
        }
    }

    private static void othersCool() {
        Check.says("All others' MOVED is one less (0 at least), without a song all.");
        int[] first = {0, 1, 2, 99, 0, 1, 98, 19};
        for (int song : new int[] {0, 1, 2, 3, 4, 5, 6, 7, 12}) {
            DebtSerenade x = Lanes.debts(8);
            Check.due("law", Check.law(x, "0"), 1);
            Check.row(x, 0, 0, song);
            for (int one = 0; one < 8; one++) {
                x.mend(one, 4, first[one]);
                x.mend(one, 3, 0);
            }
            for (int one = 0; one < 8; one++) {
                int then = one == song ? first[one] : Math.max(0, first[one] - 1);
                Check.due("song " + song + " in thought, moved of " + one, x.later(0, 1, one, 2), then);
            }
            x.evening(song);
            for (int one = 0; one < 8; one++) {
                int then = one == song ? first[one] : Math.max(0, first[one] - 1);
                Check.due("song " + song + ", moved of " + one, x.of(one, 4), then);
            }
        }
    }

    private static void eveningStays() {
        Check.says("EVENING is one more (99 stays; 0 at first).");
        DebtSerenade x = Lanes.pair(5);
        Check.due("at first", x.of(0, 7), 0);
        for (int evening = 1; evening <= 102; evening++) {
            x.evening(evening % 2 == 0 ? 12 : 0);
            Check.due("evening", x.of(0, 7), Math.min(99, evening));
            Check.due("led", x.led(0), evening);
        }
        DebtSerenade y = new DebtSerenade();
        y.mend(0, 7, 98);
        y.evening(12);
        Check.due("98 is 99 then", y.of(0, 7), 99);
        y.evening(12);
        Check.due("99 stays", y.of(0, 7), 99);
    }

    private static void eveningStaysInThought() {
        Check.says("EVENING is one more (99 stays; 0 at first).");
        DebtSerenade x = Lanes.pair(0);
        Check.row(x, 0, 0, 0, 0, 0, 0);
        Check.due("law", Check.law(x, "e=99?10;e=98?1;e>99?30"), 1);
        x.mend(0, 7, 97);
        int[] moved = {0, 0, 1, 11, 21};
        for (int n = 0; n <= 4; n++) {
            Check.due("behind " + n, x.later(0, n, 0, 2), moved[n]);
        }
        Check.due("EVENING is as it was", x.of(0, 7), 97);
    }

    /** Each byte as a SONG; who owes nobody cools by one an evening, which tells how many SONGS there are. */
    private static void whatIsASong() {
        Check.says("DEBTS, evening by evening (40 at most; 12: none; it ends with what is neither a DEBT that is there nor"
            + " 12)");
        for (int debts : new int[] {0, 1, 11, 12}) {
            for (int letter = 0; letter < 256; letter++) {
                DebtSerenade x = new DebtSerenade();
                Check.people(x, 1, 9, 15);
                x.mend(2, 4, 99);
                for (int debt = 0; debt < debts; debt++) {
                    x.debt(1, 0);
                }
                Check.row(x, 0, 0, 12, letter, 12);
                boolean song = letter == 12 || letter < debts;
                String name = "byte " + letter + " with " + debts + " debts";
                Check.due(name, x.later(0, 40, 2, 2), song ? 96 : 98);
                Check.row(x, 1, 1, 0, 0, 0);
                Check.due("judged, " + name, x.judge(1), song ? NOT : 1);
                Check.row(x, 0, 0, letter, 12);
                Check.due("first of all, " + name, x.later(0, 40, 2, 2), song ? 97 : 99);
                Check.row(x, 0, 0, letter);
                Check.due("alone, " + name, x.later(0, 40, 2, 2), song ? 98 : 99);
            }
        }
    }

    private static void fortySongs() {
        Check.says("(40 at most;");
        for (int length : new int[] {0, 1, 39, 40, 41, 60}) {
            DebtSerenade x = new DebtSerenade();
            x.person(3);
            x.mend(0, 4, 99);
            x.row(0, 0, length);
            for (int i = 0; i < length; i++) {
                x.put(0, i, 12);
            }
            int songs = Math.min(40, length);
            Check.due("of " + length, x.later(0, 40, 0, 2), 99 - songs);
            x.row(1, 1, songs);
            Check.due("a ledger of as many", x.judge(1), NOT);
            Check.due("so by all", x.hearts(1, 0, 0), 13);
            x.row(1, 1, songs + 1);
            Check.due("a ledger of more", x.judge(1), songs);
            Check.due("so by none", x.hearts(1, 0, 0), 0);
        }
    }

    private static void firstSongs() {
        Check.says("IN THOUGHT, from now, behind the first n SONGS (0 .. 40)");
        DebtSerenade x = new DebtSerenade();
        x.person(3);
        x.mend(0, 4, 99);
        x.row(0, 0, 60);
        for (int i = 0; i < 60; i++) {
            x.put(0, i, 12);
        }
        for (int n = -2; n <= 43; n++) {
            boolean so = n >= 0 && n <= 40;
            Check.due("later behind " + n, x.later(0, n, 0, 2), so ? 99 - n : BAD);
            Check.due("paid behind " + n, x.paid(0, n, 0), so ? 0 : BAD);
        }
        Check.row(x, 0, 0, 12, 12);
        Check.due("more than there are", x.later(0, 3, 0, 2), 97);
        Check.due("all that there are", x.later(0, 2, 0, 2), 97);
        Check.due("one less", x.later(0, 1, 0, 2), 98);
        Check.due("none", x.later(0, 0, 0, 2), 99);
    }

    private static void later() {
        Check.says("(SONGS on a SHELF: BAD, -11, -12 (no ROW of bytes); n 0 .. 40)");
        for (int shelf : new int[] {-1, 6, LEAST, MOST}) {
            refuseLater(BAD, shelf, 0, 0, 0);
        }
        for (int n : new int[] {-1, 41, LEAST, MOST}) {
            refuseLater(BAD, 0, n, 0, 0);
            refuseLater(BAD, 3, n, 0, 1);
            refuseLater(BAD, 2, n, 0, 2);
        }
        for (int what : new int[] {-1, 3, LEAST, MOST}) {
            refuseLater(BAD, 0, 0, 0, what);
            refuseLater(BAD, 3, 0, 0, what);
            refuseLater(BAD, 2, 0, 0, what);
        }
        Check.says("SUM of a DEBT (what 0), PURSE (1), MOVED (2) of one.");
        for (int what = 0; what < 3; what++) {
            for (int number : new int[] {-1, 5, LEAST, MOST}) {
                refuseLater(BAD, 0, 0, number, what);
                refuseLater(BAD, 3, 0, number, what);
                refuseLater(BAD, 2, 0, number, what);
            }
            refuseLater(-11, 3, 40, 4, what);
            refuseLater(-12, 1, 40, 4, what);
            refuseLater(-12, 2, 0, 0, what);
            refuseLater(-12, 4, 0, 0, what);
            refuseLater(-12, 5, 0, 0, what);
            int w = what;
            EMPTY.refuse("BAD ahead of -11, by " + w, BAD, x -> x.later(0, 0, 0, w));
            int past = what == 0 ? 12 : 8;
            FILLED.refuse("later of " + past + ", " + w, BAD, x -> x.later(0, 0, past, w));
            FILLED.refuse("ints, " + w, -12, x -> x.later(4, 0, past - 1, w));
            DebtSerenade y = Lanes.full();
            int now = what == 0 ? y.of(11, 5) : y.of(7, what + 2);
            Check.due("the last one's, " + what, y.later(0, 0, past - 1, what), now);
        }
    }

    private static void refuseLater(int want, int shelf, int n, int number, int what) {
        String call = "later(" + shelf + ", " + n + ", " + number + ", " + what + ")";
        RICH.refuse(call, want, x -> x.later(shelf, n, number, what));
    }

    private static void paid() {
        Check.says("How much was paid (what 0), which DEBTS are 0 (1: bits), the first SONG that paid (2; NOT).");
        for (int what = 0; what < 3; what++) {
            int w = what;
            for (int shelf : new int[] {-1, 6, LEAST, MOST}) {
                EMPTY.refuse("paid(" + shelf + ", 0, " + w + ")", BAD, x -> x.paid(shelf, 0, w));
                RICH.refuse("paid(" + shelf + ", 0, " + w + ")", BAD, x -> x.paid(shelf, 0, w));
            }
            for (int n : new int[] {-1, 41, LEAST, MOST}) {
                EMPTY.refuse("BAD ahead of -11: paid(0, " + n + ", " + w + ")", BAD, x -> x.paid(0, n, w));
                RICH.refuse("paid(0, " + n + ", " + w + ")", BAD, x -> x.paid(0, n, w));
                RICH.refuse("BAD ahead of -12: paid(2, " + n + ", " + w + ")", BAD, x -> x.paid(2, n, w));
            }
            EMPTY.refuse("paid(0, 0, " + w + ")", -11, x -> x.paid(0, 0, w));
            EMPTY.refuse("paid(5, 40, " + w + ")", -11, x -> x.paid(5, 40, w));
            RICH.refuse("paid(3, 40, " + w + ")", -11, x -> x.paid(3, 40, w));
            for (int shelf : new int[] {1, 2, 4, 5}) {
                RICH.refuse("paid(" + shelf + ", 40, " + w + ")", -12, x -> x.paid(shelf, 40, w));
            }
            FILLED.refuse("ints", -12, x -> x.paid(4, 0, w));
        }
        for (int what : new int[] {-1, 3, LEAST, MOST}) {
            EMPTY.refuse("BAD ahead of -11: paid(0, 0, " + what + ")", BAD, x -> x.paid(0, 0, what));
            RICH.refuse("paid(0, 0, " + what + ")", BAD, x -> x.paid(0, 0, what));
            RICH.refuse("BAD ahead of -12: paid(2, 0, " + what + ")", BAD, x -> x.paid(2, 0, what));
        }
    }

    private static void zeroBits() {
        Check.says("which DEBTS (bits) are 0.");
        DebtSerenade x = Lanes.debts(12);
        x.row(0, 0, 0);
        Check.due("none", x.paid(0, 0, 1), 0);
        for (int debt = 11; debt >= 0; debt--) {
            x.mend(debt, 5, 1);
            Check.due("1 is not 0", x.paid(0, 0, 1), 4096 - (2 << debt));
            x.mend(debt, 5, 0);
            Check.due("0 from " + debt + " on", x.paid(0, 0, 1), 4096 - (1 << debt));
        }
        DebtSerenade y = new DebtSerenade();
        y.row(0, 0, 0);
        Check.due("no debts", y.paid(0, 40, 1), 0);
    }

    private static void firstPaying() {
        Check.says("the first SONG by which something was paid (NOT).");
        for (int place : new int[] {0, 1, 38, 39, 40, 59}) {
            DebtSerenade x = Lanes.pair(500);
            x.row(0, 0, 60);
            for (int i = 0; i < 60; i++) {
                x.put(0, i, i < place ? 12 : 0);
            }
            Check.due("law", Check.law(x, "99"), 1);
            Check.due("from " + place, x.paid(0, 40, 2), place < 40 ? place : NOT);
            if (place < 40) {
                Check.due("behind it", x.paid(0, place + 1, 2), place);
                Check.due("ahead of it", x.paid(0, place, 2), NOT);
            }
        }
        DebtSerenade x = Lanes.pair(0);
        Check.row(x, 0, 0, 0, 0, 0, 0);
        x.mend(0, 4, 99);
        Check.due("nothing to pay", x.paid(0, 40, 2), NOT);
        x.mend(0, 5, 1);
        Check.due("1 is something", x.paid(0, 40, 2), 0);
        Check.due("1 in all", x.paid(0, 40, 0), 1);
        x.mend(0, 3, 0);
        Check.due("nothing to pay it from", x.paid(0, 40, 2), NOT);
        x.mend(0, 3, 1);
        Check.due("1 to pay it from", x.paid(0, 40, 2), 0);
        x.row(0, 0, 0);
        Check.due("no songs", x.paid(0, 40, 2), NOT);
    }

    private static void paidOff() {
        Check.says("PAID OFF. NOT.");
        RICH.refuse("paidOff(0, 0)", NOT, x -> x.paidOff(0, 0));
        FILLED.refuse("paidOff(0, 11)", NOT, x -> x.paidOff(0, 11));
        Check.says("PAID OFF: behind how many SONGS a DEBT is first 0 (NOT; now: 0)");
        for (int shelf : new int[] {-1, 6, LEAST, MOST}) {
            RICH.refuse("paidOff(" + shelf + ", 0)", BAD, x -> x.paidOff(shelf, 0));
            EMPTY.refuse("paidOff(" + shelf + ", 0)", BAD, x -> x.paidOff(shelf, 0));
        }
        for (int debt : new int[] {-1, 5, 12, LEAST, MOST}) {
            RICH.refuse("paidOff(0, " + debt + ")", BAD, x -> x.paidOff(0, debt));
            RICH.refuse("BAD ahead of -11: paidOff(3, " + debt + ")", BAD, x -> x.paidOff(3, debt));
            RICH.refuse("BAD ahead of -12: paidOff(2, " + debt + ")", BAD, x -> x.paidOff(2, debt));
        }
        EMPTY.refuse("BAD ahead of -11", BAD, x -> x.paidOff(0, 0));
        FILLED.refuse("paidOff(0, 12)", BAD, x -> x.paidOff(0, 12));
        RICH.refuse("-11", -11, x -> x.paidOff(3, 4));
        for (int shelf : new int[] {1, 2, 4, 5}) {
            RICH.refuse("paidOff(" + shelf + ", 4)", -12, x -> x.paidOff(shelf, 4));
        }
        FILLED.refuse("ints", -12, x -> x.paidOff(4, 11));
        for (int place : new int[] {0, 1, 38, 39, 40, 59}) {
            DebtSerenade x = Lanes.pair(9);
            x.row(0, 0, 60);
            for (int i = 0; i < 60; i++) {
                x.put(0, i, i < place ? 12 : 0);
            }
            Check.due("law", Check.law(x, "99"), 1);
            Check.due("from " + place, x.paidOff(0, 0), place < 40 ? place + 1 : NOT);
            x.mend(0, 5, 0);
            Check.due("now", x.paidOff(0, 0), 0);
        }
        DebtSerenade x = Lanes.pair(10);
        Check.due("law", Check.law(x, "99"), 1);
        Check.row(x, 0, 0, 0);
        Check.due("1 is left", x.paidOff(0, 0), NOT);
        Check.row(x, 0, 0, 0, 0);
        Check.due("behind the last song", x.paidOff(0, 0), 2);
        x.row(0, 0, 0);
        Check.due("no songs", x.paidOff(0, 0), NOT);
        x.mend(0, 5, 0);
        Check.due("no songs, now", x.paidOff(0, 0), 0);
    }
}
