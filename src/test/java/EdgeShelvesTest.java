/** The sentences on SHELVES and ROWS that name a boundary: Terms, and promises 37 to 43. */
public final class EdgeShelvesTest {
    private static final int BAD = DebtSerenade.BAD;
    private static final int LEAST = Integer.MIN_VALUE, MOST = Integer.MAX_VALUE;
    private static final long NONE = Long.MIN_VALUE;
    private static final Twins EMPTY = new Twins("an empty lane", Lanes::empty);
    private static final Twins RICH = new Twins("a rich lane", Lanes::rich);
    private static final Twins FILLED = new Twins("a full lane", Lanes::full);

    public static void main(String[] args) {
        shelves();
        keep();
        rowRanges();
        rowSizes();
        lowestBits();
        put();
        element();
        shiftRefusals();
        shiftPlaces();
        shiftAsTheyWere();
        taken();
        takenUnder();
        count();
        Check.finish();
    }

    private static void shelves() {
        Check.says("SHELVES 0 .. 5 each hold nothing (at first), a TUNE (a BODY), or a ROW");
        DebtSerenade x = new DebtSerenade();
        for (int shelf = 0; shelf < 6; shelf++) {
            Check.due("row", x.row(shelf, 2, 1), 1);
            Check.due("put", x.put(shelf, 0, 100 + shelf), 1);
        }
        for (int shelf = 0; shelf < 6; shelf++) {
            Check.due("each its own", x.element(shelf, 0), 100 + shelf);
        }
        for (int shelf : new int[] {-1, 6, LEAST, MOST}) {
            RICH.refuse("keep(" + shelf + ", 0)", BAD, y -> y.keep(shelf, 0));
            RICH.refuse("keep(" + shelf + ", -1)", BAD, y -> y.keep(shelf, -1));
            RICH.refuse("row(" + shelf + ", 0, 1)", BAD, y -> y.row(shelf, 0, 1));
            RICH.refuse("put(" + shelf + ", 0, 1)", BAD, y -> y.put(shelf, 0, 1));
            RICH.refuse("element(" + shelf + ", 0)", NONE, y -> y.element(shelf, 0));
            RICH.refuse("taken(" + shelf + ", 0)", BAD, y -> y.taken(shelf, 0));
            RICH.refuse("shift(" + shelf + ", 0, 0, 0, 0)", BAD, y -> y.shift(shelf, 0, 0, 0, 0));
            RICH.refuse("shift(0, 0, " + shelf + ", 0, 0)", BAD, y -> y.shift(0, 0, shelf, 0, 0));
        }
    }

    private static void keep() {
        Check.says("A SHELF holds nothing (body -1), or a TUNE: 1. BAD.");
        for (int body : new int[] {-2, 8, 50, LEAST, MOST}) {
            RICH.refuse("keep(0, " + body + ")", BAD, x -> x.keep(0, body));
            RICH.refuse("keep(3, " + body + ")", BAD, x -> x.keep(3, body));
            EMPTY.refuse("keep(0, " + body + ")", BAD, x -> x.keep(0, body));
        }
        EMPTY.refuse("keep(0, 0)", BAD, x -> x.keep(0, 0));
        FILLED.refuse("keep(0, 50)", BAD, x -> x.keep(0, 50));
        DebtSerenade x = Lanes.rich();
        Check.due("the first", x.keep(0, 0), 1);
        Check.due("its KIND", x.taken(0, 0), 0);
        Check.due("no ROW any more", x.put(0, 0, 1), -12);
        Check.due("the last", x.keep(5, 7), 1);
        Check.due("its KIND", x.taken(5, 7), 7);
        Check.due("nothing", x.keep(5, -1), 1);
        Check.due("nothing is there", x.taken(5, 7), -11);
        Check.due("nothing again", x.keep(5, -1), 1);
        Check.due("nothing in a ROW's place", x.keep(4, -1), 1);
        Check.due("no element", x.put(4, 0, 1), -11);
    }

    private static void rowRanges() {
        Check.says("A SHELF holds a ROW: 1. BAD (sort, n above 60); -14.");
        for (int sort : new int[] {-1, 5, LEAST, MOST}) {
            EMPTY.refuse("row(0, " + sort + ", 1)", BAD, x -> x.row(0, sort, 1));
            RICH.refuse("row(0, " + sort + ", 1)", BAD, x -> x.row(0, sort, 1));
            RICH.refuse("BAD ahead of -14: row(0, " + sort + ", -1)", BAD, x -> x.row(0, sort, -1));
        }
        for (int shelf : new int[] {-1, 6}) {
            RICH.refuse("BAD ahead of -14: row(" + shelf + ", 0, -1)", BAD, x -> x.row(shelf, 0, -1));
        }
        for (int sort = 0; sort < 5; sort++) {
            int s = sort;
            for (int n : new int[] {61, 62, MOST}) {
                RICH.refuse("row(0, " + s + ", " + n + ")", BAD, x -> x.row(0, s, n));
                EMPTY.refuse("row(0, " + s + ", " + n + ")", BAD, x -> x.row(0, s, n));
            }
            for (int n : new int[] {-1, -2, LEAST}) {
                RICH.refuse("row(0, " + s + ", " + n + ")", -14, x -> x.row(0, s, n));
                EMPTY.refuse("row(5, " + s + ", " + n + ")", -14, x -> x.row(5, s, n));
                RICH.refuse("in a TUNE's place: row(2, " + s + ", " + n + ")", -14, x -> x.row(2, s, n));
            }
        }
    }

    private static void rowSizes() {
        Check.says("of 0 .. 60 elements, 0 at first (false)");
        for (int sort = 0; sort < 5; sort++) {
            for (int n : new int[] {0, 1, 59, 60}) {
                DebtSerenade x = new DebtSerenade();
                Check.due("a ROW ahead", x.row(0, sort, 60), 1);
                for (int i = 0; i < 60; i++) {
                    x.put(0, i, 1);
                }
                Check.due("row of " + n, x.row(0, sort, n), 1);
                for (int i = -1; i <= 60; i++) {
                    boolean there = i >= 0 && i < n;
                    Check.due("element " + i + " of " + n, x.element(0, i), there ? 0 : NONE);
                    Check.due("put " + i + " of " + n, x.put(0, i, 1), there ? 1 : -13);
                }
            }
        }
        DebtSerenade x = new DebtSerenade();
        x.row(0, 3, 5);
        x.put(0, 4, 9);
        x.row(0, 3, 0);
        x.row(0, 3, 5);
        Check.due("0 at first again", x.element(0, 4), 0);
    }

    private static void lowestBits() {
        Check.says("what is put in keeps its lowest bits (a boolean: whether it is not 0; 1 or 0)");
        long[] byteEnds = {127, 127, 128, -128, 255, -1, 256, 0, -128, -128, -129, 127, -256, 0, 384, -128};
        long[] shortEnds = {32767, 32767, 32768, -32768, 65535, -1, 65536, 0, -32768, -32768, -32769, 32767, 256, 256};
        long[] intEnds = {MOST, MOST, MOST + 1L, LEAST, (1L << 32) - 1, -1, 1L << 32, 0, LEAST, LEAST, LEAST - 1L, MOST,
            65536, 65536};
        long[] longEnds = {Long.MAX_VALUE, Long.MAX_VALUE, NONE + 1, NONE + 1, 1L << 32, 1L << 32, -1, -1, 0, 0};
        long[] booleanEnds = {0, 0, 1, 1, -1, 1, 2, 1, 256, 1, 1L << 32, 1, NONE, 1, Long.MAX_VALUE, 1};
        long[][] ends = {byteEnds, shortEnds, intEnds, longEnds, booleanEnds};
        for (int sort = 0; sort < 5; sort++) {
            DebtSerenade x = new DebtSerenade();
            x.row(2, sort, 3);
            for (int i = 0; i < ends[sort].length; i += 2) {
                long v = ends[sort][i];
                Check.due("put", x.put(2, 1, v), 1);
                Check.due(v + " by sort " + sort, x.element(2, 1), ends[sort][i + 1]);
                Check.due("the one ahead", x.element(2, 0), 0);
                Check.due("the one behind", x.element(2, 2), 0);
            }
        }
        DebtSerenade x = new DebtSerenade();
        x.row(0, 3, 1);
        Check.due("the least long", x.put(0, 0, NONE), 1);
        Check.due("is there, and bears the refusal's own number", x.element(0, 0), NONE);
    }

    private static void put() {
        Check.says("Element i of a ROW becomes v: 1. BAD, -11, -12, -13.");
        for (int i : new int[] {-1, 0, 5, 60, LEAST, MOST}) {
            EMPTY.refuse("put(0, " + i + ", 1)", -11, x -> x.put(0, i, 1));
            EMPTY.refuse("put(5, " + i + ", 1)", -11, x -> x.put(5, i, 1));
            RICH.refuse("-11 ahead of -13: put(3, " + i + ", 1)", -11, x -> x.put(3, i, 1));
            RICH.refuse("-12 ahead of -13: put(2, " + i + ", 1)", -12, x -> x.put(2, i, 1));
            RICH.refuse("BAD ahead of all: put(6, " + i + ", 1)", BAD, x -> x.put(6, i, 1));
        }
        for (int i : new int[] {-1, 5, 60, LEAST, MOST}) {
            RICH.refuse("bytes: put(0, " + i + ", 1)", -13, x -> x.put(0, i, 1));
            RICH.refuse("shorts: put(1, " + i + ", 1)", -13, x -> x.put(1, i, 1));
            RICH.refuse("longs: put(4, " + i + ", 1)", -13, x -> x.put(4, i, 1));
            RICH.refuse("booleans: put(5, " + i + ", 1)", -13, x -> x.put(5, i, 1));
        }
        FILLED.refuse("put(0, 60, 1)", -13, x -> x.put(0, 60, 1));
        DebtSerenade x = Lanes.full();
        Check.due("the first", x.put(0, 0, 7), 1);
        Check.due("the last", x.put(0, 59, 8), 1);
        Check.due("the first", x.element(0, 0), 7);
        Check.due("the last", x.element(0, 59), 8);
    }

    private static void element() {
        Check.says("Element i of a ROW; Long.MIN_VALUE: BAD, -11 to -13.");
        for (int i : new int[] {-1, 0, 5, 60, LEAST, MOST}) {
            EMPTY.refuse("element(0, " + i + ")", NONE, x -> x.element(0, i));
            RICH.refuse("element(3, " + i + ")", NONE, x -> x.element(3, i));
            RICH.refuse("element(2, " + i + ")", NONE, x -> x.element(2, i));
            RICH.refuse("element(6, " + i + ")", NONE, x -> x.element(6, i));
            RICH.refuse("element(-1, " + i + ")", NONE, x -> x.element(-1, i));
        }
        for (int i : new int[] {-1, 5, 60, LEAST, MOST}) {
            RICH.refuse("element(0, " + i + ")", NONE, x -> x.element(0, i));
            RICH.refuse("element(4, " + i + ")", NONE, x -> x.element(4, i));
        }
        DebtSerenade x = Lanes.rich();
        Check.due("the first", x.element(4, 0), Long.MAX_VALUE);
        Check.due("the last", x.element(4, 2), 7);
        Check.due("behind the last", x.element(4, 3), NONE);
    }

    private static void shiftRefusals() {
        Check.says("BAD, -11 (either), -12 (no ROWS, or of unlike sorts), -13.");
        int[] unlike = {0, 1, 2, 4, 5};
        for (int shelf : new int[] {-1, 6, LEAST, MOST}) {
            for (int other : new int[] {0, 2, 3, 5}) {
                RICH.refuse("BAD first: " + shelf + " to " + other, BAD, x -> x.shift(shelf, -1, other, -1, -1));
                RICH.refuse("BAD first: " + other + " to " + shelf, BAD, x -> x.shift(other, -1, shelf, -1, -1));
            }
        }
        EMPTY.refuse("both hold nothing", -11, x -> x.shift(0, 0, 5, 0, 0));
        RICH.refuse("the same holds nothing", -11, x -> x.shift(3, 0, 3, 0, 0));
        for (int other : unlike) {
            RICH.refuse("-11 ahead of -12, -13: 3 to " + other, -11, x -> x.shift(3, -1, other, -1, 99));
            RICH.refuse("-11 ahead of -12, -13: " + other + " to 3", -11, x -> x.shift(other, -1, 3, -1, 99));
        }
        for (int from : unlike) {
            for (int onto : unlike) {
                if (from != onto || from == 2) {
                    String name = from + " to " + onto;
                    RICH.refuse("-12: " + name, -12, x -> x.shift(from, 0, onto, 0, 1));
                    RICH.refuse("-12 of none: " + name, -12, x -> x.shift(from, 0, onto, 0, 0));
                    RICH.refuse("-12 ahead of -13: " + name, -12, x -> x.shift(from, -1, onto, 99, 99));
                }
            }
        }
    }

    private static void shiftPlaces() {
        Check.says("n elements of a ROW from i on come to another one (or the same) from j on");
        Twins rows = new Twins("rows of 3 and 5", EdgeShelvesTest::threeAndFive);
        for (int i = -1; i <= 4; i++) {
            for (int j = -1; j <= 6; j++) {
                for (int n = -1; n <= 4; n++) {
                    int from = i;
                    int onto = j;
                    int many = n;
                    String call = "shift(0, " + i + ", 1, " + j + ", " + n + ")";
                    boolean there = i >= 0 && j >= 0 && n >= 0 && i + n <= 3 && j + n <= 5;
                    if (there) {
                        DebtSerenade x = threeAndFive();
                        Check.due(call, x.shift(0, i, 1, j, n), n);
                        for (int k = 0; k < 5; k++) {
                            long want = k >= j && k < j + n ? 11 + i + k - j : 21 + k;
                            Check.due("element " + k + " behind " + call, x.element(1, k), want);
                        }
                    } else {
                        rows.refuse(call, -13, x -> x.shift(0, from, 1, onto, many));
                    }
                }
            }
        }
        int[][] far = {{MOST, 0, 1}, {0, MOST, 1}, {0, 0, MOST}, {1, 1, MOST}, {MOST, MOST, MOST}, {LEAST, 0, 1},
            {0, LEAST, 1}, {0, 0, LEAST}, {MOST, 0, 0}, {0, MOST, 0}, {LEAST, 0, 0}, {0, LEAST, 0}, {3, 0, LEAST}};
        for (int[] call : far) {
            rows.refuse("far places", -13, x -> x.shift(0, call[0], 1, call[1], call[2]));
        }
    }

    private static DebtSerenade threeAndFive() {
        DebtSerenade x = new DebtSerenade();
        Check.row(x, 0, 2, 11, 12, 13);
        Check.row(x, 1, 2, 21, 22, 23, 24, 25);
        return x;
    }

    private static void shiftAsTheyWere() {
        Check.says("as they all were before: n.");
        for (int i = 0; i <= 5; i++) {
            for (int j = 0; j <= 5; j++) {
                for (int n = 0; n <= 5 - Math.max(i, j); n++) {
                    DebtSerenade x = threeAndFive();
                    String call = "shift(1, " + i + ", 1, " + j + ", " + n + ")";
                    Check.due(call, x.shift(1, i, 1, j, n), n);
                    for (int k = 0; k < 5; k++) {
                        long want = k >= j && k < j + n ? 21 + i + k - j : 21 + k;
                        Check.due("element " + k + " behind " + call, x.element(1, k), want);
                    }
                }
            }
        }
        DebtSerenade x = Lanes.full();
        x.row(2, 0, 60);
        for (int i = 0; i < 60; i++) {
            x.put(2, i, i);
        }
        Check.due("all 60", x.shift(2, 0, 0, 0, 60), 60);
        Check.due("the last", x.element(0, 59), 59);
        Check.due("61", x.shift(2, 0, 0, 0, 61), -13);
        DebtSerenade none = new DebtSerenade();
        none.row(0, 1, 0);
        Check.due("of none to none", none.shift(0, 0, 0, 0, 0), 0);
        Check.due("one of none", none.shift(0, 0, 0, 0, 1), -13);
    }

    private static void taken() {
        Check.says("What a SHELF holds, taken for a TUNE of KIND k (0 .. 7), or under it: its KIND. BAD, -11, -12.");
        for (int k : new int[] {-1, 8, LEAST, MOST}) {
            for (int shelf = 0; shelf < 6; shelf++) {
                int s = shelf;
                RICH.refuse("BAD first: taken(" + s + ", " + k + ")", BAD, x -> x.taken(s, k));
            }
            EMPTY.refuse("BAD first: taken(0, " + k + ")", BAD, x -> x.taken(0, k));
        }
        for (int k = 0; k < 8; k++) {
            int kind = k;
            EMPTY.refuse("taken(0, " + k + ")", -11, x -> x.taken(0, kind));
            RICH.refuse("taken(3, " + k + ")", -11, x -> x.taken(3, kind));
            for (int shelf : new int[] {0, 1, 4, 5}) {
                RICH.refuse("a ROW: taken(" + shelf + ", " + k + ")", -12, x -> x.taken(shelf, kind));
            }
            FILLED.refuse("ints: taken(4, " + k + ")", -12, x -> x.taken(4, kind));
        }
    }

    private static void takenUnder() {
        Check.says("0 TUNE; 1 HINGE under TUNE; 2 WINDOW under TUNE; 3 LANE under WINDOW; 4 DRAPER under HINGE; 5 SILL"
            + " under LANE; 6 FIGURE under TUNE; 7 WEDDING under DRAPER.");
        String[] kindsOver = {"0", "10", "20", "320", "410", "5320", "60", "7410"};
        for (int kind = 0; kind < 8; kind++) {
            for (int k = 0; k < 8; k++) {
                DebtSerenade x = new DebtSerenade();
                x.body(7 - kind);
                x.body(kind);
                x.keep(4, 1);
                boolean under = kindsOver[kind].contains("" + k);
                Check.due("kind " + kind + " taken for " + k, x.taken(4, k), under ? kind : -12);
            }
        }
    }

    private static void count() {
        Check.says("How many: 0 PEOPLE, 1 DEBTS, 2 bytes on THE TAPE, 3 changes that may be UNDONE, 4 BODIES, 5 bodies that"
            + " ran in the latest act(). BAD.");
        for (int what : new int[] {-1, 6, LEAST, MOST}) {
            EMPTY.refuse("count(" + what + ")", BAD, x -> x.count(what));
            RICH.refuse("count(" + what + ")", BAD, x -> x.count(what));
            FILLED.refuse("count(" + what + ")", BAD, x -> x.count(what));
        }
        int[] rich = {5, 5, 4, 6, 8, 14};
        int[] full = {8, 12, 120, 40, 50, 14};
        for (int what = 0; what < 6; what++) {
            Check.due("empty: count(" + what + ")", new DebtSerenade().count(what), 0);
            Check.due("rich: count(" + what + ")", Lanes.rich().count(what), rich[what]);
            Check.due("full: count(" + what + ")", Lanes.full().count(what), full[what]);
        }
    }
}
