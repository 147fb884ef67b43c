/** The sentences on ledgers, turns and draws that name a boundary: Terms, and promises 21, 22, 24 and 25. */
public final class EdgeLedgersTest {
    private static final int BAD = DebtSerenade.BAD, NOT = DebtSerenade.NOT, VOID = DebtSerenade.VOID;
    private static final int LEAST = Integer.MIN_VALUE, MOST = Integer.MAX_VALUE;
    private static final Twins EMPTY = new Twins("an empty lane", Lanes::empty);
    private static final Twins RICH = new Twins("a rich lane", Lanes::rich);
    private static final Twins FILLED = new Twins("a full lane", Lanes::full);

    public static void main(String[] args) {
        pairsOfShelves();
        songsFirst();
        judged();
        heartsOfWhom();
        heartsToTheEnds();
        turnsRanges();
        turnsEnd();
        turnsBest();
        drawnRanges();
        drawnSeeds();
        drawnVoices();
        drawnYears();
        Check.finish();
    }

    private static void pairsOfShelves() {
        Check.says("LEDGER (ss: 10 times the SHELF of SONGS, and that of what was paid: BAD, -11, -12; SONGS first),"
            + " JUDGED. NOT.");
        for (int ss = -11; ss <= 70; ss++) {
            int both = ss;
            boolean so = ss >= 0 && ss / 10 <= 5 && ss % 10 <= 5;
            if (so) {
                Check.due("judge(" + ss + ")", new DebtSerenade().judge(ss), -11);
            } else {
                EMPTY.refuse("judge(" + ss + ")", BAD, x -> x.judge(both));
                RICH.refuse("hearts(" + ss + ", 0, 0)", BAD, x -> x.hearts(both, 0, 0));
            }
        }
        for (int ss : new int[] {100, 101, 155, LEAST, MOST}) {
            RICH.refuse("judge(" + ss + ")", BAD, x -> x.judge(ss));
            RICH.refuse("hearts(" + ss + ", 0, 0)", BAD, x -> x.hearts(ss, 0, 0));
        }
        for (int songs = 0; songs < 6; songs++) {
            for (int paid = 0; paid < 6; paid++) {
                if (songs == paid) {
                    continue;
                }
                DebtSerenade x = Lanes.people(1);
                Check.row(x, songs, 0, 12);
                Check.row(x, paid, 1, 0, 0);
                int ss = 10 * songs + paid;
                Check.due("judge(" + ss + ")", x.judge(ss), 1);
                Check.due("hearts(" + ss + ")", x.hearts(ss, 0, 0), 0);
                Check.row(x, paid, 1, 0);
                Check.due("judge(" + ss + "), all is so", x.judge(ss), NOT);
                Check.due("hearts(" + ss + "), all is so", x.hearts(ss, 0, 0), 13);
                Check.due("voices(" + ss + "), all is so", x.hearts(ss, 0, 2), 10);
            }
        }
    }

    private static void songsFirst() {
        Check.says("BAD, -11, -12; SONGS first");
        // what a shelf holds: nothing, a tune, or a ROW of a sort
        for (int songs = -2; songs < 5; songs++) {
            for (int paid = -2; paid < 5; paid++) {
                int first = songs == -2 ? -11 : songs != 0 ? -12 : 0;
                int second = paid == -2 ? -11 : paid != 1 ? -12 : 0;
                int want = first != 0 ? first : second;
                int s = songs;
                int p = paid;
                Twins both = new Twins("SONGS " + songs + ", paid " + paid, () -> holding(s, p));
                both.refuse("judge", want == 0 ? NOT : want, x -> x.judge(34));
                for (int what = 0; what < 4; what++) {
                    int w = what;
                    int all = what < 2 ? 13 : 10;
                    both.refuse("hearts by " + w, want != 0 ? want : what % 2 == 0 ? all : 0, x -> x.hearts(34, 0, w));
                }
                both.refuse("BAD first", BAD, x -> x.hearts(34, 1, 0));
                both.refuse("BAD first", BAD, x -> x.hearts(34, -1, 0));
                both.refuse("BAD first", BAD, x -> x.hearts(34, 0, 4));
                both.refuse("BAD first", BAD, x -> x.hearts(34, 0, -1));
            }
        }
        Check.due("the same shelf for both: bytes", holding(0, 0).judge(33), -12);
        Check.due("the same shelf for both: shorts", holding(1, 1).judge(33), -12);
    }

    private static DebtSerenade holding(int songs, int paid) {
        DebtSerenade x = Lanes.people(1);
        x.body(0);
        hold(x, 3, songs);
        hold(x, 4, paid);
        return x;
    }

    private static void hold(DebtSerenade x, int shelf, int what) {
        if (what == -1) {
            x.keep(shelf, 0);
        } else if (what >= 0) {
            x.row(shelf, what, 0);
        }
    }

    private static void judged() {
        Check.says("JUDGED: the first that is not so (more than SONGS, too); NOT.");
        DebtSerenade x = Lanes.pair(500);
        x.mend(0, 4, 99);
        Check.due("law", Check.law(x, "0"), 1);
        Check.row(x, 0, 0, 0, 12, 0);
        // 99 pays 9; 89, 88 without a song; then 8
        x.row(1, 1, 0);
        Check.due("none", x.judge(1), NOT);
        Check.row(x, 1, 1, 9);
        Check.due("one", x.judge(1), NOT);
        Check.row(x, 1, 1, 9, 0, 8);
        Check.due("all", x.judge(1), NOT);
        Check.row(x, 1, 1, 9, 0, 8, 0);
        Check.due("more than SONGS", x.judge(1), 3);
        Check.row(x, 1, 1, 8, 0, 8);
        Check.due("the first, 1 less", x.judge(1), 0);
        Check.row(x, 1, 1, 10, 1, 8);
        Check.due("the first, 1 more", x.judge(1), 0);
        Check.row(x, 1, 1, 9, 1, 9);
        Check.due("the second", x.judge(1), 1);
        Check.row(x, 1, 1, 9, 0, 9);
        Check.due("the last", x.judge(1), 2);
        Check.row(x, 1, 1, 9, 0, -8);
        Check.due("below 0", x.judge(1), 2);
        Check.row(x, 1, 1, 9 + 65536, 0, 8);
        Check.due("the lowest bits of a short", x.judge(1), NOT);
        Check.row(x, 1, 1, 9 + 256, 0, 8);
        Check.due("more than a byte", x.judge(1), 0);
        x.row(0, 0, 0);
        Check.due("no songs", x.judge(1), 0);
        x.row(1, 1, 0);
        Check.due("neither", x.judge(1), NOT);
        x.row(1, 1, 60);
        x.row(0, 0, 60);
        x.mend(0, 5, 0);
        Check.due("the 41st", x.judge(1), 40);
    }

    private static void heartsOfWhom() {
        Check.says("HEARTS: how many (what 0), the least (1; NOT); VOICES: how many (2), the least (3; NOT). BAD, -11,"
            + " -12.");
        for (int what = 0; what < 4; what++) {
            int w = what;
            for (int one : new int[] {-1, 5, 8, LEAST, MOST}) {
                RICH.refuse("hearts(1, " + one + ", " + w + ")", BAD, x -> x.hearts(1, one, w));
                RICH.refuse("BAD ahead of -11, " + one + ", " + w, BAD, x -> x.hearts(31, one, w));
                RICH.refuse("BAD ahead of -12, " + one + ", " + w, BAD, x -> x.hearts(20, one, w));
            }
            EMPTY.refuse("nobody", BAD, x -> x.hearts(1, 0, w));
            FILLED.refuse("hearts(1, 8, " + w + ")", BAD, x -> x.hearts(1, 8, w));
        }
        for (int what : new int[] {-1, 4, LEAST, MOST}) {
            RICH.refuse("hearts(1, 0, " + what + ")", BAD, x -> x.hearts(1, 0, what));
            RICH.refuse("BAD ahead of -11, " + what, BAD, x -> x.hearts(3, 0, what));
        }
    }

    /** A pair whose one SONG pays 2, if a text says so; the LEDGER has that 2. */
    private static DebtSerenade fitting(String text) {
        DebtSerenade x = Lanes.pair(500);
        Check.due("law", Check.law(x, text + "?20"), 1);
        Check.row(x, 0, 0, 0);
        Check.row(x, 1, 1, 2);
        return x;
    }

    private static void heartsToTheEnds() {
        Check.says("HEARTS: by how many HEARTS (0 .. 12) of one all is so; the least (NOT).");
        String[] texts = {"h=0", "h=12", "h<12", "h>0", "h>12", "h<13", "h=11", "h%2=0"};
        int[][] fit = {{1, 0}, {1, 12}, {12, 0}, {12, 1}, {0, NOT}, {13, 0}, {1, 11}, {7, 0}};
        for (int i = 0; i < texts.length; i++) {
            DebtSerenade x = fitting(texts[i]);
            Check.due(texts[i] + ": how many", x.hearts(1, 0, 0), fit[i][0]);
            Check.due(texts[i] + ": the least", x.hearts(1, 0, 1), fit[i][1]);
            Check.due("as it was", x.of(0, 2), 6);
            Check.due("no change", x.count(3), 0);
        }
        Check.says("VOICES: by how many VOICES (0 .. 9) of one; the least (NOT).");
        String[] songs = {"v=0", "v=9", "v<9", "v>0", "v>9", "v<10", "v=8", "v%2=1"};
        int[][] sung = {{1, 0}, {1, 9}, {9, 0}, {9, 1}, {0, NOT}, {10, 0}, {1, 8}, {5, 1}};
        for (int i = 0; i < songs.length; i++) {
            DebtSerenade x = fitting(songs[i]);
            Check.due(songs[i] + ": how many", x.hearts(1, 1, 2), sung[i][0]);
            Check.due(songs[i] + ": the least", x.hearts(1, 1, 3), sung[i][1]);
            Check.due("as it was", x.of(1, 1), 5);
            Check.due("no change", x.count(3), 0);
        }
        DebtSerenade x = fitting("1");
        x.row(1, 1, 0);
        Check.due("an empty ledger", x.hearts(1, 0, 0), 13);
        Check.due("an empty ledger", x.hearts(1, 0, 3), 0);
        Check.row(x, 1, 1, 2, 0);
        Check.due("more than SONGS", x.hearts(1, 0, 0), 0);
        Check.due("more than SONGS", x.hearts(1, 0, 3), NOT);
    }

    private static void turnsRanges() {
        Check.says("BY TURNS: that (what 0), whether he sings (1). VOID: BAD.");
        for (int debt : new int[] {-1, 5, 12, LEAST, MOST}) {
            RICH.refuse("byTurns(" + debt + ", 1, 0)", VOID, x -> x.byTurns(debt, 1, 0));
            EMPTY.refuse("byTurns(" + debt + ", 1, 1)", VOID, x -> x.byTurns(debt, 1, 1));
        }
        EMPTY.refuse("byTurns(0, 1, 0)", VOID, x -> x.byTurns(0, 1, 0));
        FILLED.refuse("byTurns(12, 1, 0)", VOID, x -> x.byTurns(12, 1, 0));
        for (int what : new int[] {-1, 2, LEAST, MOST}) {
            RICH.refuse("byTurns(0, 1, " + what + ")", VOID, x -> x.byTurns(0, 1, what));
        }
        Check.says("by turns, n (1 .. 6) times, the singer first");
        for (int n : new int[] {0, 7, -1, LEAST, MOST}) {
            RICH.refuse("byTurns(0, " + n + ", 0)", VOID, x -> x.byTurns(0, n, 0));
            RICH.refuse("byTurns(0, " + n + ", 1)", VOID, x -> x.byTurns(0, n, 1));
        }
        // a song of 40 brings 4 and costs 3, a second one too; a third brings 1 alone, as 99 is all
        int[] worth = {1, 1, 2, 2, 2, 2};
        int[] sings = {1, 1, 1, 1, 0, 0};
        for (int n = 1; n <= 6; n++) {
            DebtSerenade x = Lanes.pair(500);
            Check.due("law", Check.law(x, "40"), 1);
            Check.due("of " + n, x.byTurns(0, n, 0), worth[n - 1]);
            Check.due("he sings first of " + n, x.byTurns(0, n, 1), sings[n - 1]);
        }
        DebtSerenade x = Lanes.debts(12);
        Check.due("the last debt", x.byTurns(11, 6, 0), 0);
    }

    private static void turnsEnd() {
        Check.says("behind the last one he must pay as much as MOVED by 10 of it (no more than SUM, PURSE)");
        for (int moved : new int[] {0, 9, 10, 19, 20, 98, 99}) {
            for (int sum : new int[] {0, 1, 8, 9, 10, 999}) {
                for (int purse : new int[] {0, 1, 8, 9, 10, 999}) {
                    DebtSerenade x = Lanes.pair(sum);
                    x.mend(0, 4, moved);
                    x.mend(0, 3, purse);
                    Check.due("law", Check.law(x, "0"), 1);
                    int pays = Math.min(moved / 10, Math.min(sum, purse));
                    String name = moved + ", sum " + sum + ", purse " + purse;
                    Check.due("of 1 by " + name, x.byTurns(0, 1, 0), pays);
                    Check.due("of 6 by " + name, x.byTurns(0, 6, 0), pays);
                    Check.due("he does not sing, " + name, x.byTurns(0, 6, 1), 0);
                }
            }
        }
    }

    private static void turnsBest() {
        Check.says("the singer wants most paid in all, less 3 for each song, the window least: that, if both do their"
            + " best; whether the singer sings first (1, 0; of like ones 0).");
        for (int more : new int[] {0, 29, 30, 39, 40, 99}) {
            DebtSerenade x = Lanes.pair(500);
            Check.due("law", Check.law(x, "" + more), 1);
            Check.due("by " + more, x.byTurns(0, 1, 0), Math.max(0, more / 10 - 3));
            Check.due("he sings by " + more, x.byTurns(0, 1, 1), more >= 40 ? 1 : 0);
        }
        DebtSerenade x = Lanes.pair(3);
        Check.due("law", Check.law(x, "99"), 1);
        Check.due("a song that brings 3", x.byTurns(0, 1, 1), 0);
        x.mend(0, 5, 4);
        Check.due("a song that brings 4", x.byTurns(0, 1, 1), 1);
        x.mend(0, 3, 3);
        Check.due("a purse of 3", x.byTurns(0, 1, 1), 0);
        x.mend(0, 3, 50);
        x.mend(0, 4, 90);
        Check.due("99 in all", x.byTurns(0, 1, 0), 4);
        Check.due("moved enough", x.byTurns(0, 1, 1), 0);
        x.mend(0, 7, 40);
        Check.due("law by the EVENING as it is", Check.law(x, "e"), 1);
        x.mend(0, 4, 0);
        Check.due("EVENING 40", x.byTurns(0, 1, 0), 1);
        x.mend(0, 7, 39);
        Check.due("EVENING 39", x.byTurns(0, 1, 0), 0);
        Check.due("and it stays so: 39, 78", x.byTurns(0, 3, 0), 0);
        x.mend(0, 5, 500);
        Check.due("of a greater sum: 7 less 6", x.byTurns(0, 3, 0), 1);
    }

    private static void drawnRanges() {
        Check.says("DRAWN: n years (1 .. 30) of m evenings (1 .. 40) from now by a SEED");
        for (int years : new int[] {0, 1, 2, 29, 30, 31, 99}) {
            for (int evenings : new int[] {0, 1, 2, 39, 40, 41, 99}) {
                int nm = 100 * years + evenings;
                boolean so = years >= 1 && years <= 30 && evenings >= 1 && evenings <= 40;
                if (so) {
                    Check.due("drawn by " + nm, Lanes.people(1).drawn(5, nm, 0), 50 * years);
                    Check.due("paid by " + nm, Lanes.people(1).drawn(5, nm, -1), 0);
                } else {
                    RICH.refuse("drawn(5, " + nm + ", -1)", BAD, x -> x.drawn(5, nm, -1));
                    RICH.refuse("drawn(5, " + nm + ", 0)", BAD, x -> x.drawn(5, nm, 0));
                }
            }
        }
        Check.says("DRAWN (nm: 100 n and m): paid (one -1), PURSES of one. BAD.");
        for (int nm : new int[] {-1, -101, -140, -3040, LEAST, MOST}) {
            EMPTY.refuse("drawn(5, " + nm + ", -1)", BAD, x -> x.drawn(5, nm, -1));
            RICH.refuse("drawn(5, " + nm + ", -1)", BAD, x -> x.drawn(5, nm, -1));
        }
        for (int one : new int[] {-2, 5, 8, LEAST, MOST}) {
            RICH.refuse("drawn(5, 101, " + one + ")", BAD, x -> x.drawn(5, 101, one));
            EMPTY.refuse("drawn(5, 101, " + one + ")", BAD, x -> x.drawn(5, 101, one));
        }
        EMPTY.refuse("nobody: drawn(5, 101, 0)", BAD, x -> x.drawn(5, 101, 0));
        FILLED.refuse("drawn(5, 101, 8)", BAD, x -> x.drawn(5, 101, 8));
        Check.due("an empty lane", new DebtSerenade().drawn(5, 3040, -1), 0);
    }

    /** Each of seven owes 0; by z each DEBT is sung as its number is drawn, of negative ints too. */
    private static void drawnSeeds() {
        Check.says("z = z * 1103515245 + 12345 (an int; SEED at first) ahead of each evening: DEBT (z >>> 8) % how many is"
            + " sung");
        for (int seed : new int[] {0, 1, -1, 7, 12345, 99999, -99999, LEAST, MOST, LEAST + 1, 1 << 30, 1 << 16}) {
            DebtSerenade x = Lanes.people(8);
            Check.due("law", Check.law(x, "0"), 1);
            for (int one = 1; one < 8; one++) {
                x.debt(10 * one, 500);
                x.mend(one, 4, 99);
            }
            x.mend(0, 1, 9);
            long z = (int) (seed * 1103515245L + 12345L) & 0xffffffffL;
            boolean sung = z / 65536 % 12 < 9;
            int debt = (int) (z / 256 % 7);
            for (int one = 1; one < 8; one++) {
                int purse = sung && one == debt + 1 ? 41 : 50;
                Check.due("seed " + seed + ", purse of " + one, x.drawn(seed, 101, one), purse);
            }
            Check.due("seed " + seed, x.drawn(seed, 101, -1), sung ? 9 : 0);
        }
    }

    private static void drawnVoices() {
        Check.says("if (z >>> 16) % 12 is below VOICE of who would, else none");
        for (int seed = 0; seed < 60; seed++) {
            int drawn = (seed * 1103515245 + 12345 >>> 16) % 12;
            for (int voice = 0; voice <= 9; voice++) {
                DebtSerenade x = Lanes.pair(500);
                Check.due("law", Check.law(x, "0"), 1);
                x.mend(0, 4, 99);
                x.mend(1, 1, voice);
                x.mend(0, 1, 9 - voice);
                String name = "seed " + seed + ", VOICE " + voice;
                Check.due(name, x.drawn(seed, 101, -1), drawn < voice ? 9 : 0);
            }
        }
    }

    private static void drawnYears() {
        Check.says("how much is paid in all; PURSE of a told one at the ends, all together.");
        DebtSerenade x = Lanes.pair(999);
        x.mend(0, 4, 99);
        x.mend(0, 3, 999);
        x.mend(1, 3, 999);
        x.mend(1, 1, 9);
        Check.due("law", Check.law(x, "99"), 1);
        for (int nm : new int[] {101, 140, 3001, 3040}) {
            int paid = x.drawn(3, nm, -1);
            Check.due("PURSES of BY and what is paid, " + nm, x.drawn(3, nm, 0) + paid, nm / 100 * 999);
            Check.due("PURSES of TO at their top, " + nm, x.drawn(3, nm, 1), nm / 100 * 999);
            Check.due("something is paid, " + nm, paid > 0 ? 1 : 0, 1);
        }
        Check.due("nothing is changed", x.of(0, 5), 999);
        Check.due("nothing is led", x.led(0), 0);
    }
}
