import java.util.ArrayList;
import java.util.List;

/** Promises 34 to 36: body, act, trace; against the KINDS as the language itself has them. */
public final class TunesTest {
    private static final List<Integer> RAN = new ArrayList<>();

    public static void main(String[] args) {
        bodies();
        acts();
        Check.finish();
    }

    private static void bodies() {
        DebtSerenade x = new DebtSerenade();
        Check.due("BAD", x.body(-1), DebtSerenade.BAD);
        Check.due("BAD", x.body(8), DebtSerenade.BAD);
        Check.due("no such tune", x.act(0, 0, 5), 0);
        Check.due("no trace", x.trace(0), DebtSerenade.BAD);
        for (int i = 0; i < 50; i++) {
            Check.due("body", x.body(i % 8), i);
        }
        Check.due("FULL", x.body(0), DebtSerenade.FULL);
        Check.due("BAD ahead of FULL", x.body(8), DebtSerenade.BAD);
        Check.due("count", x.count(4), 50);
        Check.due("tells", x.act(7, 3, 1) == tune(7, 7).tells(1) ? 1 : 0, 1);
        Check.due("ran", x.count(5), 14);
        Check.due("no such tune", x.act(50, 0, 5), 0);
        Check.due("no trace", x.count(5), 0);
        Check.due("no trace", x.trace(0), DebtSerenade.BAD);
        x.act(7, 0, 1);
        Check.due("ran", x.count(5), 2);
        Check.due("no such act", x.act(7, 4, 5), 0);
        Check.due("no trace", x.count(5), 0);
        x.act(7, 0, 1);
        Check.due("no such act", x.act(7, -1, 5), 0);
        Check.due("no trace", x.trace(0), DebtSerenade.BAD);
        x.act(7, 0, 1);
        Check.due("no such tune", x.act(-1, 0, 5), 0);
        Check.due("no trace", x.count(5), 0);
    }

    private static void acts() {
        DebtSerenade x = new DebtSerenade();
        int[] xs = {0, 1, -1, 7, 12345, Integer.MAX_VALUE, Integer.MIN_VALUE, 1 << 30};
        for (int i = 0; i < 50; i++) {
            int kind = (i * 5 + i / 8) % 8;
            x.body(kind);
            Tune tune = tune(kind, i);
            for (int act = 0; act < 4; act++) {
                int v = xs[(i + act) % xs.length];
                RAN.clear();
                int want = acted(tune, act, v);
                String call = "act(" + i + ", " + act + ", " + v + ") of kind " + kind;
                Check.due(call, x.act(i, act, v), want);
                Check.due("count(5) behind " + call, x.count(5), RAN.size());
                for (int k = 0; k < RAN.size() && k < 24; k++) {
                    Check.due("trace(" + k + ") behind " + call, x.trace(k), RAN.get(k));
                }
                Check.due("behind the trace", x.trace(Math.min(24, RAN.size())), DebtSerenade.BAD);
                Check.due("trace(-1)", x.trace(-1), DebtSerenade.BAD);
            }
        }
    }

    private static int acted(Tune tune, int act, int x) {
        return switch (act) {
            case 0 -> tune.sings(x);
            case 1 -> tune.moves(x);
            case 2 -> tune.hums(x);
            default -> tune.tells(x);
        };
    }

    /** An act of a new tune, for other tests; ran() tells by which bodies. */
    static int act(int kind, int n, int act, int x) {
        RAN.clear();
        return acted(tune(kind, n), act, x);
    }

    static List<Integer> ran() {
        return List.copyOf(RAN);
    }

    static boolean isOf(int kind, int other) {
        return tune(other, 0).getClass().isInstance(tune(kind, 0));
    }

    private static Tune tune(int kind, int n) {
        Tune tune = switch (kind) {
            case 0 -> new Tune();
            case 1 -> new Hinge();
            case 2 -> new Window();
            case 3 -> new Lane();
            case 4 -> new Draper();
            case 5 -> new Sill();
            case 6 -> new Figure();
            default -> new Wedding();
        };
        tune.n = n;
        return tune;
    }

    private static int ran(int body, int x) {
        RAN.add(body);
        return x;
    }

    private interface Sings {
        int n();

        default int sings(int x) {
            return ran(1, x) + n();
        }
    }

    private interface Tells {
        int moves(int x);

        int hums(int x);

        default int tells(int x) {
            ran(2, x);
            return moves(x) - hums(1);
        }
    }

    private static class Tune implements Sings, Tells {
        int n;

        public int n() {
            return n;
        }

        public int moves(int x) {
            ran(10, x);
            return sings(x) * 2;
        }

        public int hums(int x) {
            return ran(11, x) ^ n;
        }
    }

    private static class Hinge extends Tune {
        @Override
        public int sings(int x) {
            ran(20, x);
            return super.sings(x) + 3;
        }
    }

    private static class Window extends Tune {
        @Override
        public int moves(int x) {
            ran(30, x);
            return -super.moves(x);
        }
    }

    private static class Lane extends Window {
        @Override
        public int hums(int x) {
            ran(40, x);
            return super.hums(x) * 3;
        }

        @Override
        public int moves(int x) {
            ran(41, x);
            return super.moves(x + 1);
        }
    }

    private static class Draper extends Hinge {
        @Override
        public int hums(int x) {
            ran(50, x);
            return super.hums(x) - sings(2);
        }
    }

    private static class Sill extends Lane {
        @Override
        public int tells(int x) {
            ran(60, x);
            return super.tells(x) ^ 5;
        }
    }

    private static class Figure extends Tune {
        @Override
        public int sings(int x) {
            ran(70, x);
            return super.sings(x) * 2;
        }
    }

    private static class Wedding extends Draper {
        @Override
        public int moves(int x) {
            ran(80, x);
            return super.moves(x) + hums(2);
        }

        @Override
        public int tells(int x) {
            ran(81, x);
            return super.tells(x) - 1;
        }
    }
}
