/** Promises 19 to 25: lane, crowd, judge, hearts, share, byTurns, drawn. */
public final class LanesTest {
    public static void main(String[] args) {
        lane();
        crowd();
        judge();
        hearts();
        share();
        byTurns();
        drawn();
        Check.finish();
    }

    private static void lane() {
        DebtSerenade x = new DebtSerenade();
        Check.people(x, 0, 3, 6, 9, 12);
        Check.due("none", x.lane(-1), 0);
        Check.due("BAD", x.lane(-2), DebtSerenade.BAD);
        Check.due("BAD", x.lane(0), DebtSerenade.BAD);
        x.debt(1, 1);
        x.debt(10, 1);
        x.debt(21, 0);
        x.debt(32, 1);
        // no windows clash, all sing one: singing and being sung to go together
        Check.due("one evening", x.lane(-1), 1);
        Check.due("of 0", x.lane(0), 0);
        Check.due("of 3", x.lane(3), 0);
        Check.due("SUM 0", x.lane(2), DebtSerenade.NOT);
        Check.due("no debt", x.lane(4), DebtSerenade.BAD);
        x.mend(2, 5, 4);
        Check.due("1 sings two", x.lane(-1), 2);
        Check.due("of 2", x.lane(2), 1);
        Check.due("of 3", x.lane(3), 0);
        x.mend(0, 6, 3);
        // windows at 0, 3, 6, 9: 0-1, 1-2, 2-3 clash; 0-2 by the singer: a triangle
        Check.due("three", x.lane(-1), 3);
        Check.due("of 0", x.lane(0), 0);
        Check.due("of 1", x.lane(1), 1);
        Check.due("of 2", x.lane(2), 2);
        Check.due("of 3", x.lane(3), 0);
        x.mend(0, 6, 0);
        x.debt(3, 7);
        Check.due("sung to twice", x.lane(4), 1);
        x.mend(1, 0, 0);
        Check.due("the same house", x.lane(1), 1);
        fewerThanGreedy();
        allClash();
    }

    private static void allClash() {
        DebtSerenade x = new DebtSerenade();
        Check.people(x, 3, 3, 3);
        for (int i = 0; i < 12; i++) {
            x.debt(i % 2 == 0 ? 1 : 12, 1);
        }
        Check.due("twelve", x.lane(-1), 12);
        Check.due("twelve", x.crowd(0), 12);
        Check.due("all", x.crowd(1), 4095);
        for (int i = 0; i < 12; i++) {
            Check.due("one behind the other", x.lane(i), i);
        }
    }

    /** Where the first evening that is free for each DEBT would need one evening more than there must be. */
    private static void fewerThanGreedy() {
        DebtSerenade x = new DebtSerenade();
        Check.people(x, 0, 15, 1, 10, 4, 5);
        x.mend(0, 6, 1);
        x.debt(4, 1);
        x.debt(15, 1);
        x.debt(23, 1);
        x.debt(53, 1);
        // windows 0, 15, 1, 5: 0-2 clash, and 3 sings both 2 and 3
        Check.due("two", x.lane(-1), 2);
        Check.due("of 1", x.lane(1), 0);
        x.mend(5, 0, 14);
        // now 1-3 clash too: the path 0-2-3-1; with 0 and 1 on one evening there would be three
        Check.due("a path of four", x.lane(-1), 2);
        Check.due("of 0", x.lane(0), 0);
        Check.due("of 1 waits", x.lane(1), 1);
        Check.due("of 2", x.lane(2), 1);
        Check.due("of 3", x.lane(3), 0);
    }

    private static void crowd() {
        DebtSerenade x = new DebtSerenade();
        Check.due("none", x.crowd(0), 0);
        Check.due("none", x.crowd(1), 0);
        Check.due("BAD", x.crowd(-1), DebtSerenade.BAD);
        Check.due("BAD", x.crowd(2), DebtSerenade.BAD);
        Check.people(x, 0, 1, 8, 9, 15);
        x.debt(4, 1);
        x.debt(24, 1);
        x.debt(30, 1);
        x.debt(12, 0);
        // all sing: 4, 4, 0: 0-1 by the singer, 1-2 by windows
        Check.due("two", x.crowd(0), 2);
        Check.due("of like ones the least", x.crowd(1), 3);
        x.mend(3, 5, 6);
        Check.due("0-3 by windows", x.crowd(1), 3);
        x.mend(0, 6, 15);
        Check.due("all", x.crowd(0), 4);
        Check.due("all", x.crowd(1), 15);
        x.letOff(1);
        Check.due("above 0", x.crowd(1), 13);
    }

    /** By 7 a song, from 15: 22 pays 2, 19 nothing, 26 pays 2, 23 pays 2, 20 pays 2. */
    private static DebtSerenade paying() {
        DebtSerenade x = new DebtSerenade();
        Check.people(x, 1, 9);
        x.debt(1, 90);
        x.mend(0, 4, 15);
        Check.row(x, 0, 0, 0, 0, 0, 0, 0);
        return x;
    }

    private static void judge() {
        DebtSerenade x = paying();
        int[] bad = {-1, 60, 6, 9, 66, 100, 56 + 100, Integer.MIN_VALUE, Integer.MAX_VALUE};
        for (int ss : bad) {
            Check.due("judge(" + ss + ")", x.judge(ss), DebtSerenade.BAD);
        }
        Check.due("no ledger", x.judge(1), -11);
        Check.due("no songs", x.judge(10), -11);
        Check.row(x, 1, 1, 2, 0, 2, 2, 2);
        Check.due("songs of shorts", x.judge(12), -12);
        Check.due("songs of shorts", x.judge(11), -12);
        Check.due("a ledger of bytes", x.judge(0), -12);
        Check.due("songs missing first", x.judge(20), -11);
        Check.due("all is so", x.judge(1), DebtSerenade.NOT);
        x.put(1, 3, 3);
        Check.due("the fourth", x.judge(1), 3);
        x.put(1, 0, -2);
        Check.due("the first", x.judge(1), 0);
        Check.row(x, 1, 1, 2, 0);
        Check.due("fewer than songs", x.judge(1), DebtSerenade.NOT);
        Check.row(x, 1, 1, 2, 0, 2, 2, 2, 0);
        Check.due("more than songs", x.judge(1), 5);
        x.put(0, 1, 77);
        Check.due("songs end", x.judge(1), 1);
        x.row(1, 1, 0);
        Check.due("an empty ledger", x.judge(1), DebtSerenade.NOT);
        Check.row(x, 5, 0, 0, 0, 0);
        Check.row(x, 0, 1, 2, 0, 2);
        Check.row(x, 4, 0, 12);
        Check.due("songs by the tens", x.judge(50), DebtSerenade.NOT);
        Check.due("hearts by the tens", x.hearts(50, 1, 0), 13);
        x.put(0, 2, 3);
        Check.due("the third", x.judge(50), 2);
        Check.due("-12 of songs ahead of -11 of the ledger", x.judge(3), -12);
        Check.due("-11 of songs ahead of -12 of the ledger", x.judge(34), -11);
    }

    private static void hearts() {
        DebtSerenade x = paying();
        Check.row(x, 1, 1, 2, 0);
        for (int what = 0; what < 4; what++) {
            Check.due("BAD", x.hearts(60, 0, what), DebtSerenade.BAD);
            Check.due("BAD", x.hearts(1, 2, what), DebtSerenade.BAD);
            Check.due("BAD", x.hearts(1, -1, what), DebtSerenade.BAD);
            Check.due("-11", x.hearts(2, 0, what), -11);
            Check.due("-12", x.hearts(10, 0, what), -12);
        }
        Check.due("BAD", x.hearts(2, 0, 4), DebtSerenade.BAD);
        Check.due("BAD", x.hearts(2, 0, -1), DebtSerenade.BAD);
        // 15 + g is 20 to 29, then 5 + 2 g is below 20: g 5 to 7; g = 5 + HEART by 3
        Check.due("hearts 0 to 8", x.hearts(1, 0, 0), 9);
        Check.due("the least", x.hearts(1, 0, 1), 0);
        Check.due("of one who does not matter", x.hearts(1, 1, 0), 13);
        // g = VOICE + 2: 3 to 5
        Check.due("voices", x.hearts(1, 1, 2), 3);
        Check.due("the least", x.hearts(1, 1, 3), 3);
        Check.due("voices of one who does not matter", x.hearts(1, 0, 2), 10);
        x.put(1, 0, 9);
        Check.due("none", x.hearts(1, 0, 0), 0);
        Check.due("none", x.hearts(1, 0, 1), DebtSerenade.NOT);
        Check.due("none", x.hearts(1, 1, 2), 0);
        Check.due("none", x.hearts(1, 1, 3), DebtSerenade.NOT);
        Check.due("nothing changed", x.of(0, 2), 6);
        Check.due("nothing changed", x.of(1, 1), 5);
        Check.due("nothing changed", x.of(0, 4), 15);
    }

    private static void share() {
        DebtSerenade x = new DebtSerenade();
        Check.people(x, 9, 8, 15, 7);
        x.mend(0, 1, 9);
        x.mend(1, 1, 1);
        x.mend(3, 1, 0);
        // at 8: weights 10, 2, 1: of 100: 76, 15, 7, and 2 are left over
        Check.due("the least number pays what is left", x.share(8, 0, 100), 78);
        Check.due("share", x.share(8, 1, 100), 15);
        Check.due("share", x.share(8, 3, 100), 7);
        Check.due("does not hear it", x.share(8, 2, 100), 0);
        Check.due("at 5 only 3 hears", x.share(5, 3, 99), 99);
        Check.due("at 5 0 does not", x.share(5, 0, 99), 0);
        Check.due("at 6: 1 and 3", x.share(6, 1, 10), 7);
        Check.due("at 6: 1 and 3", x.share(6, 3, 10), 3);
        Check.due("c 0", x.share(8, 0, 0), 0);
        Check.due("c 999", x.share(15, 2, 999), 999);
        int[][] bad = {{-1, 0, 1}, {16, 0, 1}, {0, -1, 1}, {0, 4, 1}, {0, 0, -1}, {0, 0, 1000}};
        for (int[] a : bad) {
            Check.due("BAD", x.share(a[0], a[1], a[2]), DebtSerenade.BAD);
        }
    }

    private static void byTurns() {
        DebtSerenade x = new DebtSerenade();
        Check.people(x, 1, 9);
        x.debt(1, 100);
        int[][] bad = {{1, 1, 0}, {-1, 1, 0}, {0, 0, 0}, {0, 7, 0}, {0, 1, -1}, {0, 1, 2}};
        for (int[] a : bad) {
            Check.due("BAD", x.byTurns(a[0], a[1], a[2]), DebtSerenade.VOID);
        }
        Check.due("no song pays for itself", x.byTurns(0, 6, 0), 0);
        Check.due("law", Check.law(x, "40"), 1);
        // a song brings 4 and costs 3; the singer's turns are the first, third and fifth
        Check.due("one", x.byTurns(0, 1, 0), 1);
        Check.due("he sings", x.byTurns(0, 1, 1), 1);
        Check.due("two", x.byTurns(0, 2, 0), 1);
        Check.due("three", x.byTurns(0, 3, 0), 2);
        // a third song brings 99 in all: 1 more, for 3
        Check.due("five", x.byTurns(0, 5, 0), 2);
        Check.due("of like ones he does not sing first", x.byTurns(0, 5, 1), 0);
        Check.due("with three turns he must", x.byTurns(0, 3, 1), 1);
        Check.due("law", Check.law(x, "30"), 1);
        Check.due("of like ones 0", x.byTurns(0, 1, 1), 0);
        Check.due("law", Check.law(x, "40"), 1);
        x.mend(0, 3, 3);
        Check.due("no more than purse", x.byTurns(0, 1, 0), 0);
        x.mend(0, 3, 50);
        x.mend(0, 5, 4);
        Check.due("no more than sum", x.byTurns(0, 6, 0), 1);
        x.mend(0, 5, 100);
        x.mend(0, 4, 19);
        Check.due("he must pay below 20 too", x.byTurns(0, 1, 0), 2);
        Check.due("law by the evening as it is", Check.law(x, "e*40"), 1);
        Check.due("evening 0", x.byTurns(0, 6, 0), 1);
        x.mend(0, 7, 1);
        Check.due("evening 1", x.byTurns(0, 3, 0), 3);
        Check.due("nothing changed", x.of(0, 4), 19);
    }

    private static void drawn() {
        DebtSerenade x = new DebtSerenade();
        int[] bad = {-101, 0, 1, 100, 141, 199, 3101, 3100, 40, Integer.MAX_VALUE, Integer.MIN_VALUE};
        for (int nm : bad) {
            Check.due("drawn " + nm, x.drawn(0, nm, -1), DebtSerenade.BAD);
        }
        Check.due("no debts", x.drawn(7, 3040, -1), 0);
        Check.due("nobody", x.drawn(7, 101, 0), DebtSerenade.BAD);
        Check.people(x, 1, 9);
        Check.due("purse", x.drawn(7, 3040, 1), 1500);
        Check.due("one -2", x.drawn(7, 101, -2), DebtSerenade.BAD);
        x.debt(1, 999);
        x.mend(0, 4, 99);
        x.mend(1, 1, 9);
        // SEED 0: z = 12345, 12345 >>> 16 = 0 is below 9: sung; 99 pays 9
        Check.due("one evening", x.drawn(0, 101, -1), 9);
        Check.due("each year from now", x.drawn(0, 101, 0), 41);
        x.mend(1, 1, 0);
        Check.due("never below VOICE 0", x.drawn(0, 101, -1), 0);
        Check.due("nothing changed", x.of(0, 4), 99);
        Check.due("nothing changed", x.of(0, 7), 0);
    }
}
