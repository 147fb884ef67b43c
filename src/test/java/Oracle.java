import java.util.ArrayList;
import java.util.LinkedList;
import java.util.List;

/** A whole lane as the document tells it: Model, and what is kept beside it. Each call by its name. */
final class Oracle {
    /** BEST, where the plain way of Model would take too long. */
    static final long UNKNOWN = Long.MAX_VALUE;
    private static final long BAD = -1, NOT = -2, FULL = -3, STATE = -5, VOID = -2000000000;
    private static final int[] TOPS = {15, 9, 12, 999, 99, 999, 15, 99};

    /** What a SHELF holds, if it is a ROW. */
    private record Row(int sort, long[] elements) {
    }

    private Model now = new Model();
    private Model image = null;
    private int[] led = new int[5];
    private int[] imageLed = null;
    private String tape = "";
    private final LinkedList<int[]> undone = new LinkedList<>();
    private final LinkedList<int[]> doneAgain = new LinkedList<>();
    private final List<Integer> kinds = new ArrayList<>();
    private final Object[] shelves = new Object[6];
    private List<Integer> trace = List.of();

    long answer(String name, int[] a) {
        return switch (name) {
            case "person", "debt", "debts", "mend", "of", "feed", "law", "moves" -> people(name, a);
            case "later", "paid", "paidOff" -> songs(name, a);
            case "above", "richest", "round", "settle", "best", "help", "lane", "crowd" -> sums(name, a);
            case "judge", "hearts", "share", "byTurns", "drawn" -> ledgers(name, a);
            case "evening", "lend", "letOff", "led", "image", "back", "undo", "redo" -> deeds(name, a);
            case "body", "act", "trace" -> tunes(name, a);
            default -> shelves(name, a);
        };
    }

    private boolean isOne(int one) {
        return one >= 0 && one < now.people.size();
    }

    private boolean isDebt(int debt) {
        return debt >= 0 && debt < now.debts.size();
    }

    private static boolean in(int v, int low, int high) {
        return v >= low && v <= high;
    }

    // ---- people, debts

    private long people(String name, int[] a) {
        switch (name) {
            case "person":
                if (!in(a[0], 0, 15)) {
                    return BAD;
                }
                if (now.people.size() == 8) {
                    return FULL;
                }
                now.person(a[0]);
                return now.people.size() - 1;
            case "debt":
                return a[0] < 0 ? BAD : owe(a[0] / 10, a[0] % 10, a[1]);
            case "debts":
                return debtsFrom(a[0], a[1], a[2]);
            case "mend":
                return mend(a[0], a[1], a[2]);
            case "of":
                if (a[1] == 8 || a[1] == 9) {
                    return isDebt(a[0]) ? now.debts.get(a[0])[a[1] - 8] : VOID;
                }
                return get(a[0], a[1]);
            case "feed":
                if (!in(a[0], 0, 255)) {
                    return BAD;
                }
                if (tape.length() == 120) {
                    return FULL;
                }
                tape += (char) a[0];
                return tape.length();
            case "law":
                int fault = Model.fault(tape);
                now.law = fault < 0 ? tape : now.law;
                tape = "";
                return fault < 0 ? 1 : -100 - fault;
            default:
                return isDebt(a[0]) ? now.moves(a[0]) : BAD;
        }
    }

    private long owe(long by, long to, long sum) {
        boolean so = by >= 0 && by < now.people.size() && to >= 0 && to < now.people.size() && by != to;
        if (!so || sum < 0 || sum > 999) {
            return BAD;
        }
        if (now.debts.size() == 12) {
            return FULL;
        }
        now.debts.add(new int[] {(int) by, (int) to, (int) sum});
        return now.debts.size() - 1;
    }

    private long debtsFrom(int shelf, int i, int n) {
        if (!in(shelf, 0, 5) || !in(n, 1, 12)) {
            return BAD;
        }
        if (shelves[shelf] == null) {
            return 0;
        }
        if (!(shelves[shelf] instanceof Row row) || row.sort != 1) {
            return -12;
        }
        int came = 0;
        for (long at = i; came < n && at >= 0 && at + 2 < row.elements.length; at += 3) {
            int place = (int) at;
            if (owe(row.elements[place], row.elements[place + 1], row.elements[place + 2]) < 0) {
                return came;
            }
            came++;
        }
        return came;
    }

    private long get(int number, int what) {
        if (in(what, 0, 4)) {
            return isOne(number) ? now.people.get(number)[what] : VOID;
        }
        if (what == 5) {
            return isDebt(number) ? now.debts.get(number)[2] : VOID;
        }
        if (number != 0 || !in(what, 6, 7)) {
            return VOID;
        }
        return what == 6 ? now.clash : now.evening;
    }

    private void set(int number, int what, int v) {
        if (what < 5) {
            now.people.get(number)[what] = v;
        } else if (what == 5) {
            now.debts.get(number)[2] = v;
        } else if (what == 6) {
            now.clash = v;
        } else {
            now.evening = v;
        }
    }

    private long mend(int number, int what, int v) {
        long was = get(number, what);
        if (was == VOID || !in(v, 0, TOPS[what])) {
            return VOID;
        }
        if (was != v) {
            undone.addLast(new int[] {number, what, (int) was, v});
            doneAgain.clear();
            if (undone.size() > 40) {
                undone.removeFirst();
            }
            set(number, what, v);
        }
        return was;
    }

    // ---- songs in thought

    private long rowRefusal(int shelf, int sort) {
        if (shelves[shelf] == null) {
            return -11;
        }
        return shelves[shelf] instanceof Row row && row.sort == sort ? 0 : -12;
    }

    private List<Integer> songsOn(int shelf) {
        List<Integer> songs = new ArrayList<>();
        if (shelves[shelf] instanceof Row row) {
            for (long song : row.elements) {
                if (songs.size() == 40 || song != 12 && (song < 0 || song >= now.debts.size())) {
                    break;
                }
                songs.add((int) song);
            }
        }
        return songs;
    }

    private long songs(String name, int[] a) {
        boolean bad = switch (name) {
            case "later" -> !in(a[1], 0, 40) || !in(a[3], 0, 2) || (a[3] == 0 ? !isDebt(a[2]) : !isOne(a[2]));
            case "paid" -> !in(a[1], 0, 40) || !in(a[2], 0, 2);
            default -> !isDebt(a[1]);
        };
        if (bad || !in(a[0], 0, 5)) {
            return BAD;
        }
        if (rowRefusal(a[0], 0) != 0) {
            return rowRefusal(a[0], 0);
        }
        List<Integer> songs = songsOn(a[0]);
        Model thought = now.copy();
        int n = name.equals("paidOff") ? 40 : a[1];
        int paid = 0;
        int first = -2;
        int off = name.equals("paidOff") && thought.debts.get(a[1])[2] == 0 ? 0 : -2;
        for (int i = 0; i < n && i < songs.size(); i++) {
            int pays = thought.evening(songs.get(i));
            paid += pays;
            first = first == -2 && pays > 0 ? i : first;
            off = name.equals("paidOff") && off == -2 && thought.debts.get(a[1])[2] == 0 ? i + 1 : off;
        }
        if (name.equals("later")) {
            return a[3] == 0 ? thought.debts.get(a[2])[2] : thought.people.get(a[2])[a[3] + 2];
        }
        if (name.equals("paidOff")) {
            return off;
        }
        int zero = 0;
        for (int d = 0; d < thought.debts.size(); d++) {
            zero += thought.debts.get(d)[2] == 0 ? 1 << d : 0;
        }
        return a[2] == 0 ? paid : a[2] == 1 ? zero : first;
    }

    private long sums(String name, int[] a) {
        switch (name) {
            case "above":
                return isOne(a[0]) ? now.above(a[0]) : VOID;
            case "richest":
                return now.richest();
            case "round":
                return round(a[0]);
            case "settle":
                int[] above = new int[now.people.size()];
                for (int one = 0; one < above.length; one++) {
                    above[one] = now.above(one);
                }
                return Model.settle(above, 0);
            case "best":
                if (!in(a[0], 0, 4) || a[1] < -1 || a[1] >= a[0]) {
                    return BAD;
                }
                return Math.pow(now.debts.size() + 1, a[0]) > 200 ? UNKNOWN : now.best(a[0])[a[1] + 1];
            case "help":
                return in(a[0], 0, 1) ? now.help()[a[0]] : VOID;
            case "lane":
                return lane(a[0]);
            default:
                int crowd = now.crowd();
                return a[0] == 0 ? Integer.bitCount(crowd) : a[0] == 1 ? crowd : BAD;
        }
    }

    private long round(int what) {
        int ring = now.ring();
        if (!in(what, 0, 2)) {
            return BAD;
        }
        if (ring == 0) {
            return NOT;
        }
        int least = 999;
        for (int d = 0; d < now.debts.size(); d++) {
            least = (ring >> d & 1) != 0 ? Math.min(least, now.debts.get(d)[2]) : least;
        }
        return what == 0 ? Integer.bitCount(ring) : what == 1 ? ring : least;
    }

    private long lane(int k) {
        if (k != -1 && !isDebt(k)) {
            return BAD;
        }
        if (k >= 0 && now.debts.get(k)[2] == 0) {
            return NOT;
        }
        int[] evenings = now.lane();
        int many = 0;
        for (int e : evenings) {
            many = Math.max(many, e + 1);
        }
        int at = 0;
        for (int d = 0; d < k; d++) {
            at += now.debts.get(d)[2] > 0 ? 1 : 0;
        }
        return k == -1 ? many : evenings[at];
    }

    // ---- lanes, ledgers

    private long ledgers(String name, int[] a) {
        switch (name) {
            case "judge", "hearts":
                boolean bad = a[0] < 0 || a[0] / 10 > 5 || a[0] % 10 > 5;
                if (bad || name.equals("hearts") && (!isOne(a[1]) || !in(a[2], 0, 3))) {
                    return BAD;
                }
                long refusal = rowRefusal(a[0] / 10, 0) != 0 ? rowRefusal(a[0] / 10, 0) : rowRefusal(a[0] % 10, 1);
                if (refusal != 0) {
                    return refusal;
                }
                return name.equals("judge") ? judged(now, a[0]) : hearts(a[0], a[1], a[2]);
            case "share":
                return !in(a[0], 0, 15) || !isOne(a[1]) || !in(a[2], 0, 999) ? BAD : now.share(a[0], a[1], a[2]);
            case "byTurns":
                if (!isDebt(a[0]) || !in(a[1], 1, 6) || !in(a[2], 0, 1)) {
                    return VOID;
                }
                int best = now.byTurns(a[0], 0, a[1], 0);
                return a[2] == 0 ? best : best > now.copy().byTurns(a[0], 1, a[1], 0) ? 1 : 0;
            default:
                int n = Math.floorDiv(a[1], 100);
                int m = Math.floorMod(a[1], 100);
                if (!in(n, 1, 30) || !in(m, 1, 40) || a[2] != -1 && !isOne(a[2])) {
                    return BAD;
                }
                return now.drawn(a[0], n, m, a[2]);
        }
    }

    private long judged(Model from, int ss) {
        List<Integer> songs = songsOn(ss / 10);
        long[] told = ((Row) shelves[ss % 10]).elements;
        Model thought = from.copy();
        for (int i = 0; i < told.length; i++) {
            if (i == songs.size() || thought.evening(songs.get(i)) != told[i]) {
                return i;
            }
        }
        return NOT;
    }

    private long hearts(int ss, int one, int what) {
        int many = 0;
        int least = -2;
        for (int v = 0; v <= (what < 2 ? 12 : 9); v++) {
            Model other = now.copy();
            other.people.get(one)[what < 2 ? 2 : 1] = v;
            if (judged(other, ss) == NOT) {
                many++;
                least = least == -2 ? v : least;
            }
        }
        return what % 2 == 0 ? many : least;
    }

    // ---- in deed

    private long deeds(String name, int[] a) {
        switch (name) {
            case "evening":
                if (a[0] != 12 && !isDebt(a[0])) {
                    return BAD;
                }
                int pays = now.evening(a[0]);
                led[0]++;
                led[1] += a[0] == 12 ? 0 : 1;
                led[2] += pays;
                return pays;
            case "lend":
                return lend(a[0], a[1]);
            case "letOff":
                if (!isDebt(a[0])) {
                    return BAD;
                }
                int sum = now.debts.get(a[0])[2];
                now.debts.get(a[0])[2] = 0;
                led[4] += sum;
                return sum;
            case "led":
                return in(a[0], 0, 4) ? led[a[0]] : BAD;
            case "image":
                image = now.copy();
                imageLed = led.clone();
                return led[0];
            case "back":
                return back();
            case "undo":
                return stepped(undone, doneAgain, 2);
            default:
                return stepped(doneAgain, undone, 3);
        }
    }

    private long lend(int debt, int v) {
        if (!isDebt(debt) || !in(v, 1, 999)) {
            return BAD;
        }
        int[] d = now.debts.get(debt);
        int[] by = now.people.get(d[0]);
        int[] to = now.people.get(d[1]);
        if (to[3] < v || d[2] + v > 999) {
            return STATE;
        }
        to[3] -= v;
        by[3] = Math.min(999, by[3] + v);
        d[2] += v;
        led[3] += v;
        return d[2];
    }

    private long back() {
        if (image == null) {
            return STATE;
        }
        for (int one = 0; one < image.people.size(); one++) {
            now.people.get(one)[3] = image.people.get(one)[3];
            now.people.get(one)[4] = image.people.get(one)[4];
        }
        for (int d = 0; d < image.debts.size(); d++) {
            now.debts.get(d)[2] = image.debts.get(d)[2];
        }
        now.evening = image.evening;
        led = imageLed.clone();
        return led[0];
    }

    private long stepped(LinkedList<int[]> from, LinkedList<int[]> onto, int which) {
        if (from.isEmpty()) {
            return STATE;
        }
        int[] change = from.removeLast();
        onto.addLast(change);
        set(change[0], change[1], change[which]);
        return from.size();
    }

    // ---- acts, shelves

    private long tunes(String name, int[] a) {
        switch (name) {
            case "body":
                if (!in(a[0], 0, 7)) {
                    return BAD;
                }
                if (kinds.size() == 50) {
                    return FULL;
                }
                kinds.add(a[0]);
                return kinds.size() - 1;
            case "act":
                trace = List.of();
                if (!in(a[0], 0, kinds.size() - 1) || !in(a[1], 0, 3)) {
                    return 0;
                }
                int got = TunesTest.act(kinds.get(a[0]), a[0], a[1], a[2]);
                trace = TunesTest.ran();
                return got;
            default:
                return in(a[0], 0, Math.min(24, trace.size()) - 1) ? trace.get(a[0]) : BAD;
        }
    }

    private long shelves(String name, int[] a) {
        if (name.equals("count")) {
            int[] many = {now.people.size(), now.debts.size(), tape.length(), undone.size(), kinds.size(), trace.size()};
            return in(a[0], 0, 5) ? many[a[0]] : BAD;
        }
        if (name.equals("element")) {
            return place(a[0], a[1]) == 0 ? ((Row) shelves[a[0]]).elements[a[1]] : Long.MIN_VALUE;
        }
        if (!in(a[0], 0, 5)) {
            return BAD;
        }
        switch (name) {
            case "keep":
                if (!in(a[1], -1, kinds.size() - 1)) {
                    return BAD;
                }
                shelves[a[0]] = a[1] == -1 ? null : Integer.valueOf(a[1]);
                return 1;
            case "row":
                if (!in(a[1], 0, 4) || a[2] > 60) {
                    return BAD;
                }
                if (a[2] < 0) {
                    return -14;
                }
                shelves[a[0]] = new Row(a[1], new long[a[2]]);
                return 1;
            case "put":
                return put(a[0], a[1], Calls.value(a));
            case "shift":
                return shift(a[0], a[1], a[2], a[3], a[4]);
            default:
                return taken(a[0], a[1]);
        }
    }

    private long place(int shelf, int i) {
        if (!in(shelf, 0, 5)) {
            return BAD;
        }
        if (shelves[shelf] == null) {
            return -11;
        }
        if (!(shelves[shelf] instanceof Row row)) {
            return -12;
        }
        return in(i, 0, row.elements.length - 1) ? 0 : -13;
    }

    private long put(int shelf, int i, long v) {
        if (place(shelf, i) != 0) {
            return place(shelf, i);
        }
        Row row = (Row) shelves[shelf];
        int bits = 8 << row.sort;
        row.elements[i] = row.sort == 4 ? (v == 0 ? 0 : 1) : v << 64 - bits >> 64 - bits;
        return 1;
    }

    private long shift(int shelf, int i, int other, int j, int n) {
        if (!in(other, 0, 5)) {
            return BAD;
        }
        if (shelves[shelf] == null || shelves[other] == null) {
            return -11;
        }
        if (!(shelves[shelf] instanceof Row from) || !(shelves[other] instanceof Row onto) || from.sort != onto.sort) {
            return -12;
        }
        boolean there = n >= 0 && i >= 0 && (long) i + n <= from.elements.length;
        if (!there || j < 0 || (long) j + n > onto.elements.length) {
            return -13;
        }
        long[] before = from.elements.clone();
        for (int k = 0; k < n; k++) {
            onto.elements[j + k] = before[i + k];
        }
        return n;
    }

    private long taken(int shelf, int k) {
        if (!in(k, 0, 7)) {
            return BAD;
        }
        if (shelves[shelf] == null) {
            return -11;
        }
        if (!(shelves[shelf] instanceof Integer body) || !TunesTest.isOf(kinds.get(body), k)) {
            return -12;
        }
        return kinds.get(body);
    }
}
