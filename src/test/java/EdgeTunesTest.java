/** The sentences on TUNES and THE TRACE that name a boundary: Terms, and promises 34 to 36. */
public final class EdgeTunesTest {
    private static final int BAD = DebtSerenade.BAD, FULL = DebtSerenade.FULL;
    private static final int LEAST = Integer.MIN_VALUE, MOST = Integer.MAX_VALUE;
    private static final Twins EMPTY = new Twins("an empty lane", Lanes::empty);
    private static final Twins RICH = new Twins("a rich lane", Lanes::rich);
    private static final Twins FILLED = new Twins("a full lane", Lanes::full);

    public static void main(String[] args) {
        kinds();
        fifty();
        noSuchAct();
        wrapping();
        trace();
        firstOfTheTrace();
        latestAct();
        Check.finish();
    }

    private static void kinds() {
        Check.says("A TUNE of a KIND (0 .. 7) is kept: its number. BAD, FULL.");
        for (int kind : new int[] {-1, 8, LEAST, MOST}) {
            EMPTY.refuse("body(" + kind + ")", BAD, x -> x.body(kind));
            RICH.refuse("body(" + kind + ")", BAD, x -> x.body(kind));
            FILLED.refuse("BAD ahead of FULL: body(" + kind + ")", BAD, x -> x.body(kind));
        }
        DebtSerenade x = new DebtSerenade();
        for (int kind = 0; kind < 8; kind++) {
            FILLED.refuse("body(" + kind + ")", FULL, fullOf(kind));
            Check.due("body(" + kind + ")", x.body(kind), kind);
            x.keep(0, kind);
            Check.due("its KIND", x.taken(0, kind), kind);
        }
    }

    private static Twins.Call fullOf(int kind) {
        return x -> x.body(kind);
    }

    private static void fifty() {
        Check.says("TUNES' ways are kept by call as BODIES 0 .. 49");
        DebtSerenade x = new DebtSerenade();
        for (int body = 0; body < 50; body++) {
            Check.due("not yet there", x.act(body, 0, 5), 0);
            Check.due("nothing ran", x.count(5), 0);
            Check.due("not yet kept", x.keep(0, body), BAD);
            Check.due("body", x.body(0), body);
            Check.due("how many", x.count(4), body + 1);
            Check.due("n is its number", x.act(body, 0, 5), 5 + body);
            Check.due("kept", x.keep(0, body), 1);
        }
        Check.due("one more", x.body(0), FULL);
        Check.due("how many", x.count(4), 50);
        Check.due("the last still acts", x.act(49, 0, 5), 54);
        Check.due("no such tune", x.act(50, 0, 5), 0);
    }

    private static void noSuchAct() {
        Check.says("An ACT (0 .. 3) of a TUNE with x. 0, and no TRACE then: no such TUNE, ACT.");
        int[][] none = {{0, -1}, {0, 4}, {7, -1}, {7, 4}, {-1, 0}, {8, 0}, {-1, 3}, {8, 3}, {-1, -1}, {8, 4}, {0, LEAST},
            {0, MOST}, {LEAST, 0}, {MOST, 0}, {50, 0}};
        for (int[] call : none) {
            DebtSerenade x = Lanes.rich();
            Check.due("a trace ahead", x.count(5), 14);
            Check.due("act(" + call[0] + ", " + call[1] + ", 9)", x.act(call[0], call[1], 9), 0);
            Check.due("none ran", x.count(5), 0);
            Check.due("no trace", x.trace(0), BAD);
            Check.due("the next runs", x.act(7, 3, 5), Lanes.rich().act(7, 3, 5));
            Check.due("a trace again", x.count(5), 14);
        }
        EMPTY.refuse("act(0, 0, 5)", 0, x -> x.act(0, 0, 5));
        DebtSerenade x = new DebtSerenade();
        x.body(0);
        x.body(0);
        int[] answers = {8, 16, 6, 16};
        int[] ran = {1, 2, 1, 4};
        for (int act = 0; act < 4; act++) {
            Check.due("act " + act, x.act(1, act, 7), answers[act]);
            Check.due("ran", x.count(5), ran[act]);
        }
    }

    private static void wrapping() {
        Check.says("ACTS with x (an int that wraps)");
        DebtSerenade x = new DebtSerenade();
        for (int kind = 0; kind < 8; kind++) {
            x.body(kind);
        }
        Check.due("sings", x.act(1, 0, MOST), MOST + 4);
        Check.due("sings", x.act(6, 0, MOST), (MOST + 6) * 2);
        Check.due("moves", x.act(0, 1, MOST), -2);
        Check.due("moves", x.act(0, 1, LEAST), 0);
        Check.due("less", x.act(2, 1, 1 << 30), -((1 << 30) + 2) * 2);
        Check.due("x and 1", x.act(3, 1, MOST), -(LEAST + 3) * 2);
        Check.due("hums by 3", x.act(3, 2, MOST), (MOST ^ 3) * 3);
        Check.due("hums less sings", x.act(4, 2, LEAST), (LEAST ^ 4) - 9);
        Check.due("of 0", x.act(0, 0, 0), 0);
        Check.due("of -1", x.act(0, 0, -1), -1);
    }

    private static void trace() {
        Check.says("THE TRACE's i-th body. BAD.");
        for (int i : new int[] {-1, 14, 23, 24, LEAST, MOST}) {
            EMPTY.refuse("trace(" + i + ")", BAD, x -> x.trace(i));
            RICH.refuse("trace(" + i + ")", BAD, x -> x.trace(i));
            FILLED.refuse("trace(" + i + ")", BAD, x -> x.trace(i));
        }
        EMPTY.refuse("trace(0)", BAD, x -> x.trace(0));
        int[] wedding = {81, 2, 80, 10, 20, 1, 50, 11, 20, 1, 50, 11, 20, 1};
        DebtSerenade x = Lanes.rich();
        for (int i = 0; i < wedding.length; i++) {
            Check.due("trace(" + i + ")", x.trace(i), wedding[i]);
        }
    }

    /** No KIND has an act that runs more than 14 bodies, so that none of them is ever lost. */
    private static void firstOfTheTrace() {
        Check.says("as they began; the first 24 are kept.");
        int[][] ran = {{1, 2, 1, 4}, {2, 3, 1, 5}, {1, 3, 1, 5}, {1, 4, 2, 7}, {2, 3, 4, 8}, {1, 4, 2, 8}, {2, 3, 1, 5},
            {2, 8, 4, 14}};
        for (int kind = 0; kind < 8; kind++) {
            for (int act = 0; act < 4; act++) {
                DebtSerenade x = new DebtSerenade();
                x.body(kind);
                x.act(0, act, 5);
                String name = "act " + act + " of kind " + kind;
                Check.due("ran by " + name, x.count(5), ran[kind][act]);
                Check.due("the last by " + name, x.trace(ran[kind][act] - 1) > 0 ? 1 : 0, 1);
                Check.due("behind the last by " + name, x.trace(ran[kind][act]), BAD);
            }
        }
    }

    private static void latestAct() {
        Check.says("THE TRACE: numbers of the bodies that ran in the latest act()");
        DebtSerenade x = Lanes.rich();
        x.act(0, 2, 5);
        Check.due("one alone", x.count(5), 1);
        Check.due("hums", x.trace(0), 11);
        Check.due("no more of the act ahead", x.trace(1), BAD);
        x.body(3);
        x.keep(0, 3);
        x.evening(12);
        Check.due("it stays", x.count(5), 1);
        Check.due("it stays", x.trace(0), 11);
    }
}
