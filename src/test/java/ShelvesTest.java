/** Promises 37 to 43: keep, row, put, element, shift, taken, count. */
public final class ShelvesTest {
    private static final long NO = Long.MIN_VALUE;

    public static void main(String[] args) {
        keepAndTaken();
        rows();
        sorts();
        shift();
        count();
        Check.finish();
    }

    private static void keepAndTaken() {
        DebtSerenade x = new DebtSerenade();
        Check.due("no tune 0", x.keep(0, 0), DebtSerenade.BAD);
        for (int kind = 0; kind < 8; kind++) {
            x.body(kind);
        }
        Check.due("shelf", x.keep(-1, 0), DebtSerenade.BAD);
        Check.due("shelf", x.keep(6, 0), DebtSerenade.BAD);
        Check.due("body", x.keep(0, -2), DebtSerenade.BAD);
        Check.due("body", x.keep(0, 8), DebtSerenade.BAD);
        Check.due("nothing there", x.taken(0, 0), -11);
        Check.due("BAD first", x.taken(0, 8), DebtSerenade.BAD);
        Check.due("BAD first", x.taken(0, -1), DebtSerenade.BAD);
        Check.due("shelf", x.taken(6, 0), DebtSerenade.BAD);
        Check.due("shelf", x.taken(-1, 0), DebtSerenade.BAD);
        String[] over = {"0", "01", "02", "023", "014", "0235", "06", "0147"};
        for (int kind = 0; kind < 8; kind++) {
            Check.due("keep", x.keep(5, kind), 1);
            for (int k = 0; k < 8; k++) {
                boolean is = over[kind].indexOf('0' + k) >= 0;
                Check.due("kind " + kind + " taken for " + k, x.taken(5, k), is ? kind : -12);
            }
        }
        Check.due("put on a tune", x.put(5, 0, 1), -12);
        Check.due("element of a tune", x.element(5, 0), NO);
        Check.due("row in its place", x.row(5, 3, 1), 1);
        Check.due("a row taken", x.taken(5, 0), -12);
        Check.due("tune in its place", x.keep(5, 3), 1);
        Check.due("no row", x.element(5, 0), NO);
        Check.due("nothing", x.keep(5, -1), 1);
        Check.due("nothing", x.taken(5, 0), -11);
        Check.due("nothing", x.put(5, 0, 0), -11);
    }

    private static void rows() {
        DebtSerenade x = new DebtSerenade();
        Check.due("shelf", x.row(-1, 0, 1), DebtSerenade.BAD);
        Check.due("shelf", x.row(6, 0, 1), DebtSerenade.BAD);
        Check.due("sort", x.row(0, -1, 1), DebtSerenade.BAD);
        Check.due("sort", x.row(0, 5, 1), DebtSerenade.BAD);
        Check.due("n", x.row(0, 0, 61), DebtSerenade.BAD);
        Check.due("size", x.row(0, 0, -1), -14);
        Check.due("size", x.row(0, 0, Integer.MIN_VALUE), -14);
        Check.due("BAD ahead of -14", x.row(0, 5, -1), DebtSerenade.BAD);
        Check.due("BAD ahead of -14", x.row(6, 0, -1), DebtSerenade.BAD);
        Check.due("nothing came", x.put(0, 0, 0), -11);
        Check.due("row", x.row(0, 3, 60), 1);
        for (int i = 0; i < 60; i++) {
            Check.due("0 at first", x.element(0, i), 0);
            Check.due("put", x.put(0, i, i + 1000000000000L), 1);
        }
        for (int i = 0; i < 60; i++) {
            Check.due("element", x.element(0, i), i + 1000000000000L);
        }
        Check.due("place 60", x.put(0, 60, 1), -13);
        Check.due("place -1", x.put(0, -1, 1), -13);
        Check.due("place 60", x.element(0, 60), NO);
        Check.due("place -1", x.element(0, -1), NO);
        Check.due("shelf", x.put(6, 0, 1), DebtSerenade.BAD);
        Check.due("shelf", x.put(-1, 99, 1), DebtSerenade.BAD);
        Check.due("shelf", x.element(6, 0), NO);
        Check.due("nothing", x.element(1, 0), NO);
        Check.due("refused: as it was", x.row(0, 3, -1), -14);
        Check.due("as it was", x.element(0, 59), 1000000000059L);
        Check.due("anew", x.row(0, 3, 59), 1);
        Check.due("0 again", x.element(0, 58), 0);
        Check.due("shorter", x.element(0, 59), NO);
        Check.due("of none", x.row(0, 2, 0), 1);
        Check.due("of none", x.put(0, 0, 0), -13);
    }

    private static void sorts() {
        DebtSerenade x = new DebtSerenade();
        long[] vs = {0, 1, -1, 127, 128, 255, 256, 32767, 32768, 65536, 1L << 31, 1L << 32, Long.MAX_VALUE, NO, NO + 5};
        for (int sort = 0; sort < 5; sort++) {
            x.row(sort, sort, vs.length);
            for (int i = 0; i < vs.length; i++) {
                Check.due("put", x.put(sort, i, vs[i]), 1);
                long v = vs[i];
                long want = sort == 0 ? (byte) v : sort == 1 ? (short) v : sort == 2 ? (int) v : v;
                want = sort == 4 ? Math.min(1, Math.abs(Long.signum(v))) : want;
                Check.due("element of sort " + sort, x.element(sort, i), want);
            }
        }
    }

    private static void shift() {
        DebtSerenade x = new DebtSerenade();
        Check.row(x, 0, 1, 1, 2, 3, 4, 5);
        Check.row(x, 1, 1, 11, 12, 13);
        Check.row(x, 2, 0, 1, 2, 3);
        x.body(0);
        x.keep(3, 0);
        Check.due("shelf", x.shift(-1, 0, 0, 0, 0), DebtSerenade.BAD);
        Check.due("other", x.shift(0, 0, 6, 0, 0), DebtSerenade.BAD);
        Check.due("BAD ahead of -11", x.shift(4, 0, 6, 0, 0), DebtSerenade.BAD);
        Check.due("nothing", x.shift(4, 0, 0, 0, 0), -11);
        Check.due("nothing in the other", x.shift(0, 0, 4, 0, 0), -11);
        Check.due("either ahead of -12", x.shift(3, 0, 4, 0, 0), -11);
        Check.due("a tune", x.shift(3, 0, 0, 0, 0), -12);
        Check.due("a tune in the other", x.shift(0, 0, 3, 0, 0), -12);
        Check.due("tunes", x.shift(3, 0, 3, 0, 0), -12);
        Check.due("unlike sorts", x.shift(0, 0, 2, 0, 1), -12);
        Check.due("-12 ahead of -13", x.shift(0, 0, 2, 0, 99), -12);
        int[][] places = {{-1, 0, 1}, {0, -1, 1}, {0, 0, 4}, {3, 0, 3}, {0, 1, 3}, {0, 0, -1}, {6, 0, 0}, {0, 4, 0},
            {Integer.MAX_VALUE, 0, Integer.MAX_VALUE}, {1, 0, Integer.MAX_VALUE}, {0, Integer.MAX_VALUE, 1},
            {0, 0, Integer.MIN_VALUE}, {Integer.MIN_VALUE, 0, 0}};
        for (int[] p : places) {
            Check.due("place", x.shift(0, p[0], 1, p[1], p[2]), -13);
        }
        holds(x, 1, 11, 12, 13);
        Check.due("none, at the end", x.shift(0, 5, 1, 3, 0), 0);
        Check.due("two", x.shift(0, 3, 1, 1, 2), 2);
        holds(x, 1, 11, 4, 5);
        holds(x, 0, 1, 2, 3, 4, 5);
        Check.due("onward", x.shift(0, 0, 0, 1, 4), 4);
        holds(x, 0, 1, 1, 2, 3, 4);
        Check.due("backward", x.shift(0, 2, 0, 0, 3), 3);
        holds(x, 0, 2, 3, 4, 3, 4);
        Check.due("all", x.shift(1, 0, 0, 2, 3), 3);
        holds(x, 0, 2, 3, 11, 4, 5);
    }

    private static void holds(DebtSerenade x, int shelf, long... want) {
        for (int i = 0; i < want.length; i++) {
            Check.due("element " + i + " of " + shelf, x.element(shelf, i), want[i]);
        }
    }

    private static void count() {
        DebtSerenade x = new DebtSerenade();
        Check.due("BAD", x.count(-1), DebtSerenade.BAD);
        Check.due("BAD", x.count(6), DebtSerenade.BAD);
        Check.people(x, 1, 2, 3, 4, 5, 6);
        for (int i = 0; i < 5; i++) {
            x.debt(1, i);
        }
        for (int i = 0; i < 4; i++) {
            x.feed('v');
        }
        for (int i = 0; i < 3; i++) {
            x.mend(0, 3, i);
        }
        x.undo();
        x.body(0);
        x.body(2);
        x.act(1, 1, 0);
        int[] want = {6, 5, 4, 2, 2, 3};
        for (int what = 0; what < 6; what++) {
            Check.due("count(" + what + ")", x.count(what), want[what]);
        }
    }
}
