import java.util.Random;

/** Promises 9 to 28 over drawn lanes: the program against Model. */
public final class ModelTest {
    private static final Random RANDOM = new Random(4711);

    public static void main(String[] args) {
        for (int i = 0; i < 400; i++) {
            lane(i);
        }
        Check.finish();
    }

    private static int below(int n) {
        return RANDOM.nextInt(n);
    }

    private static void lane(int run) {
        DebtSerenade x = new DebtSerenade();
        Model m = new Model();
        int people = below(9);
        for (int i = 0; i < people; i++) {
            int house = below(16);
            Check.due("person", x.person(house), i);
            m.person(house);
            mend(x, m, i, run);
        }
        int most = run % 4 == 0 ? 12 : 6;
        int debts = people < 2 ? 0 : below(most + 1);
        for (int i = 0; i < debts; i++) {
            int by = below(people);
            int to = (by + 1 + below(people - 1)) % people;
            int sum = below(4) == 0 ? 0 : below(3) == 0 ? below(1000) : below(30);
            Check.due("debt", x.debt(10 * by + to, sum), i);
            m.debts.add(new int[] {by, to, sum});
        }
        m.clash = below(run % 2 == 0 ? 3 : 16);
        x.mend(0, 6, m.clash);
        m.evening = below(3) == 0 ? 97 : below(100);
        x.mend(0, 7, m.evening);
        if (below(3) > 0) {
            String text = Model.text(RANDOM);
            if (text.length() <= 120) {
                Check.due("law " + text, Check.law(x, text), 1);
                m.law = text;
            }
        }
        String name = "run " + run + ": ";
        sums(name, x, m);
        lanes(name, x, m);
        songs(name, x, m);
        deeds(name, x, m);
    }

    private static void mend(DebtSerenade x, Model m, int one, int run) {
        int[] tops = {16, 10, 13, run % 3 == 0 ? 30 : 1000, 100};
        for (int what = 1; what < 5; what++) {
            if (below(3) > 0) {
                int v = below(tops[what]);
                Check.due("mend", x.mend(one, what, v), m.people.get(one)[what]);
                m.people.get(one)[what] = v;
            }
        }
    }

    private static void sums(String name, DebtSerenade x, Model m) {
        int[] above = new int[m.people.size()];
        for (int one = 0; one < above.length; one++) {
            above[one] = m.above(one);
            Check.due(name + "above", x.above(one), above[one]);
        }
        Check.due(name + "richest", x.richest(), m.richest());
        int ring = m.ring();
        Check.due(name + "round(0)", x.round(0), ring == 0 ? -2 : Integer.bitCount(ring));
        Check.due(name + "round(1)", x.round(1), ring == 0 ? -2 : ring);
        int least = 1000;
        for (int d = 0; d < m.debts.size(); d++) {
            least = (ring >> d & 1) != 0 ? Math.min(least, m.debts.get(d)[2]) : least;
        }
        Check.due(name + "round(2)", x.round(2), ring == 0 ? -2 : least);
        Check.due(name + "settle", x.settle(), Model.settle(above, 0));
        Check.due(name + "help(0)", x.help(0), m.help()[0]);
        Check.due(name + "help(1)", x.help(1), m.help()[1]);
        boolean small = m.debts.size() <= 4 || m.debts.size() == 12;
        int top = small ? 4 : m.debts.size() <= 6 ? 3 : 2;
        for (int t = 0; t <= top; t++) {
            int[] best = m.best(t);
            for (int k = -1; k < t; k++) {
                Check.due(name + "best(" + t + ", " + k + ")", x.best(t, k), best[k + 1]);
            }
        }
    }

    private static void lanes(String name, DebtSerenade x, Model m) {
        int crowd = m.crowd();
        Check.due(name + "crowd(0)", x.crowd(0), Integer.bitCount(crowd));
        Check.due(name + "crowd(1)", x.crowd(1), crowd);
        int[] evenings = m.lane();
        int many = 0;
        int at = 0;
        for (int d = 0; d < m.debts.size(); d++) {
            boolean owes = m.debts.get(d)[2] > 0;
            Check.due(name + "lane(" + d + ")", x.lane(d), owes ? evenings[at] : -2);
            many = owes ? Math.max(many, evenings[at] + 1) : many;
            at += owes ? 1 : 0;
        }
        Check.due(name + "lane(-1)", x.lane(-1), many);
        for (int one = 0; one < m.people.size(); one++) {
            int house = below(16);
            int c = below(1000);
            Check.due(name + "share", x.share(house, one, c), m.share(house, one, c));
        }
        for (int d = 0; d < m.debts.size(); d++) {
            Check.due(name + "moves(" + d + ")", x.moves(d), m.moves(d));
            for (int n = 1; n <= 6; n++) {
                int best = m.byTurns(d, 0, n, 0);
                Check.due(name + "byTurns(" + d + ", " + n + ", 0)", x.byTurns(d, n, 0), best);
                Check.due(name + "byTurns(" + d + ", " + n + ", 1)", x.byTurns(d, n, 1), best > silent(m, d, n) ? 1 : 0);
            }
        }
        int seed = RANDOM.nextInt();
        int years = 1 + below(4);
        int nights = 1 + below(40);
        for (int one = -1; one < m.people.size(); one++) {
            Check.due(name + "drawn", x.drawn(seed, 100 * years + nights, one), m.drawn(seed, years, nights, one));
        }
    }

    private static int silent(Model m, int debt, int n) {
        return m.copy().byTurns(debt, 1, n, 0);
    }

    private static void songs(String name, DebtSerenade x, Model m) {
        int length = below(61);
        long[] row = new long[length];
        int there = -1;
        for (int i = 0; i < length; i++) {
            int debts = m.debts.size();
            row[i] = debts > 0 && below(6) > 0 ? below(debts) : 12;
            if (below(90) == 0) {
                row[i] = below(2) == 0 ? -1 - below(100) : 13 + below(100);
                there = there < 0 ? i : there;
            }
        }
        there = Math.min(40, there < 0 ? length : there);
        Check.row(x, 4, 0, row);
        long[] paid = new long[Math.min(there, 1 + below(50))];
        int[] off = new int[m.debts.size()];
        java.util.Arrays.fill(off, -2);
        Model thought = m.copy();
        int all = 0;
        int first = -2;
        for (int n = 0; n <= 40; n++) {
            later(name, x, thought, n, all, first);
            for (int d = 0; d < off.length; d++) {
                off[d] = off[d] == -2 && thought.debts.get(d)[2] == 0 ? n : off[d];
            }
            if (n < there) {
                int pays = thought.evening((int) row[n]);
                all += pays;
                first = first < 0 && pays > 0 ? n : first;
                if (n < paid.length) {
                    paid[n] = pays;
                }
            }
        }
        for (int d = 0; d < off.length; d++) {
            Check.due(name + "paidOff(" + d + ")", x.paidOff(4, d), off[d]);
        }
        ledger(name, x, m, row, there, paid);
    }

    private static void later(String name, DebtSerenade x, Model thought, int n, int all, int first) {
        int zero = 0;
        for (int d = 0; d < thought.debts.size(); d++) {
            int sum = thought.debts.get(d)[2];
            zero |= sum == 0 ? 1 << d : 0;
            Check.due(name + "later sum", x.later(4, n, d, 0), sum);
        }
        for (int one = 0; one < thought.people.size(); one++) {
            Check.due(name + "later purse", x.later(4, n, one, 1), thought.people.get(one)[3]);
            Check.due(name + "later moved", x.later(4, n, one, 2), thought.people.get(one)[4]);
        }
        Check.due(name + "paid(0)", x.paid(4, n, 0), all);
        Check.due(name + "paid(1)", x.paid(4, n, 1), zero);
        Check.due(name + "paid(2)", x.paid(4, n, 2), first);
    }

    private static void ledger(String name, DebtSerenade x, Model m, long[] row, int there, long[] paid) {
        Check.row(x, 5, 1, paid);
        Check.due(name + "judge", x.judge(45), -2);
        for (int one = 0; one < m.people.size(); one++) {
            for (int what = 2; what >= 1; what--) {
                int many = 0;
                int least = -2;
                for (int v = 0; v <= (what == 2 ? 12 : 9); v++) {
                    Model other = m.copy();
                    other.people.get(one)[what] = v;
                    boolean so = true;
                    for (int i = 0; i < paid.length && so; i++) {
                        so = other.evening((int) row[i]) == paid[i];
                    }
                    many += so ? 1 : 0;
                    least = so && least < 0 ? v : least;
                }
                Check.due(name + "fits", x.hearts(45, one, what == 2 ? 0 : 2), many);
                Check.due(name + "least", x.hearts(45, one, what == 2 ? 1 : 3), least);
            }
        }
        if (paid.length > 0) {
            int place = below(paid.length);
            x.put(5, place, paid[place] + 1);
            Check.due(name + "judge, one is not so", x.judge(45), place);
        }
        if (there < 60) {
            long[] more = new long[there + 1];
            Model other = m.copy();
            for (int i = 0; i < there; i++) {
                more[i] = other.evening((int) row[i]);
            }
            Check.row(x, 5, 1, more);
            Check.due(name + "judge, more than songs", x.judge(45), there);
        }
    }

    private static void deeds(String name, DebtSerenade x, Model m) {
        int paid = 0;
        for (int i = 0; i < 30; i++) {
            int debt = m.debts.isEmpty() || below(5) == 0 ? 12 : below(m.debts.size());
            int pays = m.evening(debt);
            paid += pays;
            Check.due(name + "evening(" + debt + ")", x.evening(debt), pays);
            if (debt < 12 && below(5) == 0) {
                lend(name, x, m, debt);
            }
        }
        Check.due(name + "led(0)", x.led(0), 30);
        Check.due(name + "led(2)", x.led(2), paid);
        for (int one = 0; one < m.people.size(); one++) {
            for (int what = 0; what < 5; what++) {
                Check.due(name + "of", x.of(one, what), m.people.get(one)[what]);
            }
        }
        for (int d = 0; d < m.debts.size(); d++) {
            Check.due(name + "sum", x.of(d, 5), m.debts.get(d)[2]);
            Check.due(name + "by", x.of(d, 8), m.debts.get(d)[0]);
            Check.due(name + "to", x.of(d, 9), m.debts.get(d)[1]);
        }
        Check.due(name + "clash", x.of(0, 6), m.clash);
        Check.due(name + "evening", x.of(0, 7), m.evening);
    }

    private static void lend(String name, DebtSerenade x, Model m, int debt) {
        int v = 1 + below(60);
        int[] d = m.debts.get(debt);
        int[] lender = m.people.get(d[1]);
        int[] borrower = m.people.get(d[0]);
        if (lender[3] < v || d[2] + v > 999) {
            Check.due(name + "lend", x.lend(debt, v), -5);
            return;
        }
        d[2] += v;
        lender[3] -= v;
        borrower[3] = Math.min(999, borrower[3] + v);
        Check.due(name + "lend", x.lend(debt, v), d[2]);
    }
}
