/** Promises 10 to 12: later, paid, paidOff. */
public final class SongsTest {
    public static void main(String[] args) {
        refusals();
        oneDebt();
        endOfSongs();
        nothingIsChanged();
        Check.finish();
    }

    private static DebtSerenade pair() {
        DebtSerenade x = new DebtSerenade();
        Check.people(x, 1, 9);
        Check.due("debt", x.debt(1, 9), 0);
        return x;
    }

    private static void refusals() {
        DebtSerenade x = pair();
        Check.due("nothing there", x.later(0, 0, 0, 0), -11);
        Check.due("nothing there", x.paid(0, 0, 0), -11);
        Check.due("nothing there", x.paidOff(0, 0), -11);
        for (int sort = 1; sort <= 4; sort++) {
            x.row(0, sort, 5);
            Check.due("no bytes", x.later(0, 0, 0, 0), -12);
            Check.due("no bytes", x.paid(0, 0, 0), -12);
            Check.due("no bytes", x.paidOff(0, 0), -12);
        }
        x.body(0);
        x.keep(0, 0);
        Check.due("a tune", x.later(0, 0, 0, 0), -12);
        Check.due("a tune", x.paid(0, 0, 0), -12);
        Check.due("a tune", x.paidOff(0, 0), -12);
        int[][] later = {{-1, 0, 0, 0}, {6, 0, 0, 0}, {0, -1, 0, 0}, {0, 41, 0, 0}, {0, 0, 1, 0}, {0, 0, -1, 0},
            {0, 0, 2, 1}, {0, 0, -1, 2}, {0, 0, 0, 3}, {0, 0, 0, -1}};
        for (int[] a : later) {
            Check.due("later BAD", x.later(a[0], a[1], a[2], a[3]), DebtSerenade.BAD);
        }
        int[][] paid = {{-1, 0, 0}, {6, 0, 0}, {0, -1, 0}, {0, 41, 0}, {0, 0, -1}, {0, 0, 3}};
        for (int[] a : paid) {
            Check.due("paid BAD", x.paid(a[0], a[1], a[2]), DebtSerenade.BAD);
        }
        Check.due("paidOff BAD", x.paidOff(6, 0), DebtSerenade.BAD);
        Check.due("paidOff BAD", x.paidOff(0, 1), DebtSerenade.BAD);
        Check.due("paidOff BAD", x.paidOff(0, -1), DebtSerenade.BAD);
    }

    /** By 7 a song: MOVED 7, 14, 21 (pays 2, so 11), 18, 25 (pays 2, so 15), 22 (2, 12), 19, 26 (2, 16), 23 (1: all). */
    private static void oneDebt() {
        DebtSerenade x = pair();
        Check.row(x, 0, 0, new long[12]);
        int[] moved = {0, 7, 14, 11, 18, 15, 12, 19, 16, 13, 20, 27, 34};
        int[] sum = {9, 9, 9, 7, 7, 5, 3, 3, 1, 0, 0, 0, 0};
        for (int n = 0; n <= 12; n++) {
            Check.due("moved behind " + n, x.later(0, n, 0, 2), moved[n]);
            Check.due("sum behind " + n, x.later(0, n, 0, 0), sum[n]);
            Check.due("purse behind " + n, x.later(0, n, 0, 1), 41 + sum[n]);
            Check.due("purse of to behind " + n, x.later(0, n, 1, 1), 59 - sum[n]);
            Check.due("paid behind " + n, x.paid(0, n, 0), 9 - sum[n]);
            Check.due("bits behind " + n, x.paid(0, n, 1), sum[n] == 0 ? 1 : 0);
            Check.due("first behind " + n, x.paid(0, n, 2), n < 3 ? DebtSerenade.NOT : 2);
        }
        Check.due("paid off", x.paidOff(0, 0), 9);
        x.mend(1, 3, 998);
        Check.due("what is above is lost", x.later(0, 12, 1, 1), 999);
        Check.due("and left his purse", x.later(0, 12, 0, 1), 41);
        x.mend(0, 5, 0);
        Check.due("now", x.paidOff(0, 0), 0);
        Check.due("bits now", x.paid(0, 0, 1), 1);
    }

    private static void endOfSongs() {
        DebtSerenade x = pair();
        x.mend(0, 4, 30);
        Check.row(x, 0, 0, 12, 12, 0, 1, 0);
        Check.due("ends at no debt", x.paid(0, 40, 0), 3);
        Check.due("moved: 28 and 7, less 10", x.later(0, 40, 0, 2), 25);
        Check.row(x, 0, 0, 12, -1, 0);
        Check.due("ends below 0", x.later(0, 40, 0, 2), 29);
        Check.row(x, 0, 0, 256, 12, 13);
        Check.due("lowest bits", x.paid(0, 40, 0), 3);
        x.debt(10, 5);
        Check.row(x, 0, 0, 12, 12, 0, 1, 0);
        Check.due("a debt that is there by now", x.paid(0, 40, 0), 6);
        long[] long60 = new long[60];
        java.util.Arrays.fill(long60, 12);
        long60[40] = 0;
        Check.row(x, 0, 0, long60);
        Check.due("40 at most", x.paid(0, 40, 0), 0);
        Check.due("40 at most, for paidOff too", x.paidOff(0, 0), DebtSerenade.NOT);
        Check.due("without a song all cool", x.later(0, 40, 0, 2), 0);
        long60[39] = 0;
        Check.row(x, 0, 0, long60);
        Check.due("the fortieth", x.later(0, 40, 0, 2), 7);
        Check.due("not the fortieth", x.later(0, 39, 0, 2), 0);
    }

    private static void nothingIsChanged() {
        DebtSerenade x = pair();
        x.mend(0, 4, 60);
        Check.row(x, 0, 0, 0, 0, 0);
        Check.due("paid", x.paid(0, 40, 0), 9);
        Check.due("paidOff", x.paidOff(0, 0), 2);
        Check.due("later", x.later(0, 3, 0, 0), 0);
        Check.due("sum", x.of(0, 5), 9);
        Check.due("purse", x.of(0, 3), 50);
        Check.due("moved", x.of(0, 4), 60);
        Check.due("evening", x.of(0, 7), 0);
        Check.due("led", x.led(0), 0);
        Check.due("law by evenings", Check.law(x, "e*20"), 1);
        x.mend(0, 4, 0);
        Check.due("evening goes on in thought", x.later(0, 3, 0, 2), 40);
        x.mend(0, 7, 99);
        Check.due("99 stays", x.later(0, 1, 0, 2), 89);
    }
}
