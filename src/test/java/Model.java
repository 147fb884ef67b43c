import java.util.ArrayList;
import java.util.List;
import java.util.Random;

/** The document once more, in its slowest and plainest form, by other ways than the program's. */
final class Model {
    static final int NONE = 12;
    final List<int[]> people = new ArrayList<>(); // house, voice, heart, purse, moved
    final List<int[]> debts = new ArrayList<>(); // by, to, sum
    int clash = 2;
    int evening = 0;
    String law = null;

    Model copy() {
        Model m = new Model();
        for (int[] p : people) {
            m.people.add(p.clone());
        }
        for (int[] d : debts) {
            m.debts.add(d.clone());
        }
        m.clash = clash;
        m.evening = evening;
        m.law = law;
        return m;
    }

    void person(int house) {
        people.add(new int[] {house, 5, 6, 50, 0});
    }

    // ---- texts

    static int fault(String text) {
        int low = 0;
        int high = text.length() + 1;
        while (high - low > 1) {
            int middle = (low + high) / 2;
            if (goesOn(text.substring(0, middle))) {
                low = middle;
            } else {
                high = middle;
            }
        }
        return low == text.length() && isText(text) ? -1 : low;
    }

    private static boolean goesOn(String start) {
        String closing = "";
        for (int i = 0; i <= 6; i++) {
            if (isText(start + closing) || isText(start + "v" + closing)) {
                return true;
            }
            closing += ")";
        }
        return false;
    }

    static boolean isText(String text) {
        for (String line : text.split(";", -1)) {
            String[] parts = line.split("\\?", -1);
            if (parts.length > 2) {
                return false;
            }
            for (String part : parts) {
                if (!isE(part, 6)) {
                    return false;
                }
            }
        }
        return true;
    }

    private static boolean isE(String s, int open) {
        for (String a : apart(s, "|")) {
            for (String b : apart(a, "&")) {
                List<String> compared = apart(b, "<=>");
                if (compared.size() > 2) {
                    return false;
                }
                for (String sum : compared) {
                    for (String p : apart(sum, "+-")) {
                        for (String o : apart(p, "*/%")) {
                            if (!isO(o, open)) {
                                return false;
                            }
                        }
                    }
                }
            }
        }
        return true;
    }

    private static boolean isO(String s, int open) {
        if (s.matches("[0-9]{1,4}|[vhmsne]")) {
            return true;
        }
        if (open == 0 || s.length() < 2) {
            return false;
        }
        if (s.charAt(0) == '!' || s.charAt(0) == '-') {
            return isO(s.substring(1), open - 1);
        }
        return s.charAt(0) == '(' && s.endsWith(")") && isE(s.substring(1, s.length() - 1), open - 1);
    }

    /** Parts a text at signs that join two, outside of ( ). */
    private static List<String> apart(String s, String signs) {
        List<String> parts = new ArrayList<>();
        int from = 0;
        for (int i : places(s, signs)) {
            parts.add(s.substring(from, i));
            from = i + 1;
        }
        parts.add(s.substring(from));
        return parts;
    }

    private static List<Integer> places(String s, String signs) {
        List<Integer> places = new ArrayList<>();
        int depth = 0;
        for (int i = 0; i < s.length(); i++) {
            char c = s.charAt(i);
            depth += c == '(' ? 1 : c == ')' ? -1 : 0;
            boolean joins = c != '-' || i > 0 && (Character.isLetterOrDigit(s.charAt(i - 1)) || s.charAt(i - 1) == ')');
            if (depth == 0 && joins && signs.indexOf(c) >= 0) {
                places.add(i);
            }
        }
        return places;
    }

    static int worth(String text, int[] given) {
        for (String line : text.split(";", -1)) {
            String[] parts = line.split("\\?", -1);
            if (parts.length == 1 || valueOf(parts[0], 0, given) != 0) {
                return valueOf(parts[parts.length - 1], 0, given);
            }
        }
        return 0;
    }

    private static int valueOf(String s, int level, int[] given) {
        String[] levels = {"|", "&", "<=>", "+-", "*/%"};
        if (level == levels.length) {
            return valueOfO(s, given);
        }
        List<Integer> places = places(s, levels[level]);
        if (places.isEmpty()) {
            return valueOf(s, level + 1, given);
        }
        int last = places.get(places.size() - 1);
        long left = valueOf(s.substring(0, last), level, given);
        long right = valueOf(s.substring(last + 1), level + 1, given);
        return switch (s.charAt(last)) {
            case '|' -> left != 0 || right != 0 ? 1 : 0;
            case '&' -> left != 0 && right != 0 ? 1 : 0;
            case '<' -> left < right ? 1 : 0;
            case '=' -> left == right ? 1 : 0;
            case '>' -> left > right ? 1 : 0;
            case '+' -> (int) (left + right);
            case '-' -> (int) (left - right);
            case '*' -> (int) (left * right);
            case '/' -> right == 0 ? 0 : (int) (left / right);
            default -> right == 0 ? 0 : (int) (left % right);
        };
    }

    private static int valueOfO(String s, int[] given) {
        char c = s.charAt(0);
        if (c == '!') {
            return valueOfO(s.substring(1), given) == 0 ? 1 : 0;
        }
        if (c == '-') {
            return (int) -(long) valueOfO(s.substring(1), given);
        }
        if (c == '(') {
            return valueOf(s.substring(1, s.length() - 1), 0, given);
        }
        int name = "vhmsne".indexOf(c);
        return name >= 0 ? given[name] : Integer.parseInt(s);
    }

    /** A text of THE LAW by draws. */
    static String text(Random random) {
        StringBuilder text = new StringBuilder();
        int lines = 1 + random.nextInt(3);
        for (int i = 0; i < lines; i++) {
            text.append(i == 0 ? "" : ";");
            if (random.nextInt(2) == 0) {
                text.append(randomE(random, 3)).append("?");
            }
            text.append(randomE(random, 3));
        }
        return text.toString();
    }

    private static String randomE(Random random, int depth) {
        StringBuilder text = new StringBuilder(randomO(random, depth));
        int more = random.nextInt(4);
        boolean compared = false;
        for (int i = 0; i < more; i++) {
            char sign = "|&<=>+-*/%".charAt(random.nextInt(10));
            boolean compares = "<=>".indexOf(sign) >= 0;
            if (compares && compared) {
                sign = '&';
                compares = false;
            }
            compared = compares || compared && sign != '&' && sign != '|';
            text.append(sign).append(randomO(random, depth));
        }
        return text.toString();
    }

    private static String randomO(Random random, int depth) {
        int pick = random.nextInt(depth > 0 ? 10 : 7);
        if (pick < 3) {
            return Integer.toString(random.nextInt(random.nextInt(5) == 0 ? 10000 : 20));
        }
        if (pick < 7) {
            return "vhmsne".substring(pick - 3 + random.nextInt(3)).substring(0, 1);
        }
        return switch (pick) {
            case 7 -> "!" + randomO(random, depth - 1);
            case 8 -> "-" + randomO(random, depth - 1);
            default -> "(" + randomE(random, depth - 1) + ")";
        };
    }

    // ---- evenings

    int moves(int debt) {
        int[] d = debts.get(debt);
        int[] window = people.get(d[0]);
        int v = people.get(d[1])[1];
        if (law == null) {
            return v + window[2] / 3;
        }
        int near = -1; // he himself is counted too
        for (int[] p : people) {
            near += near(p, window[0]) ? 1 : 0;
        }
        int told = worth(law, new int[] {v, window[2], window[4], d[2], near, evening});
        return told < 0 ? 0 : told > 99 ? 99 : told;
    }

    private boolean near(int[] p, int house) {
        return p[0] >= house - clash && p[0] <= house + clash;
    }

    int evening(int debt) {
        int pays = 0;
        int[] window = null;
        if (debt != NONE) {
            int[] d = debts.get(debt);
            window = people.get(d[0]);
            window[4] += moves(debt);
            if (window[4] > 99) {
                window[4] = 99;
            }
            if (window[4] >= 20) {
                while (pays < window[4] / 10 && d[2] > 0 && window[3] > 0) {
                    pays++;
                    d[2]--;
                    window[3]--;
                    int[] singer = people.get(d[1]);
                    singer[3] += singer[3] < 999 ? 1 : 0;
                }
            }
            window[4] -= pays > 0 ? 10 : 0;
        }
        for (int[] p : people) {
            if (p != window && p[4] > 0) {
                p[4]--;
            }
        }
        evening += evening < 99 ? 1 : 0;
        return pays;
    }

    int above(int one) {
        int all = 0;
        for (int[] d : debts) {
            all += d[1] == one ? d[2] : 0;
            all -= d[0] == one ? d[2] : 0;
        }
        return all;
    }

    int worthOf(int one) {
        return people.get(one)[3] + above(one);
    }

    int richest() {
        int best = -2;
        for (int one = people.size() - 1; one >= 0; one--) {
            if (best < 0 || worthOf(one) >= worthOf(best)) {
                best = one;
            }
        }
        return best;
    }

    /** Bits of the fewest DEBTS that go round, found by walking; 0: none. */
    int ring() {
        int best = 0;
        for (int start = 0; start < people.size(); start++) {
            best = walk(start, start, 0, best);
        }
        return best;
    }

    private int walk(int start, int at, int bits, int best) {
        int found = best;
        for (int d = 0; d < debts.size(); d++) {
            int[] debt = debts.get(d);
            if (debt[0] != at || debt[2] == 0 || (bits >> d & 1) != 0) {
                continue;
            }
            int more = bits | 1 << d;
            if (found != 0 && Integer.bitCount(more) > Integer.bitCount(found)) {
                continue;
            }
            if (debt[1] != start) {
                found = walk(start, debt[1], more, found);
            } else if (found == 0 || Integer.bitCount(more) < Integer.bitCount(found) || more < found) {
                found = more;
            }
        }
        return found;
    }

    /** The first who is not at 0 is paid off wholly, by each of the others in turn. */
    static int settle(int[] above, int from) {
        int at = from;
        while (at < above.length && above[at] == 0) {
            at++;
        }
        if (at == above.length) {
            return 0;
        }
        int fewest = 99;
        for (int other = at + 1; other < above.length; other++) {
            if (above[at] > 0 != above[other] > 0 && above[other] != 0) {
                above[other] += above[at];
                fewest = Math.min(fewest, 1 + settle(above, at + 1));
                above[other] -= above[at];
            }
        }
        return fewest;
    }

    /** What is paid, then the songs. */
    int[] best(int t) {
        int[] best = new int[t + 1];
        best[0] = -1;
        int choices = debts.size() + 1;
        int all = 1;
        for (int i = 0; i < t; i++) {
            all *= choices;
        }
        for (int number = 0; number < all; number++) {
            int[] songs = new int[t + 1];
            int rest = number;
            for (int i = t; i >= 1; i--) {
                songs[i] = rest % choices == choices - 1 ? NONE : rest % choices;
                rest /= choices;
            }
            Model m = copy();
            for (int i = 1; i <= t; i++) {
                songs[0] += m.evening(songs[i]);
            }
            if (songs[0] > best[0]) {
                best = songs;
            }
        }
        return best;
    }

    int[] help() {
        int[] best = null;
        for (int d = 0; d < debts.size(); d++) {
            Model m = copy();
            m.debts.get(d)[2] = 0;
            int least = Integer.MAX_VALUE;
            for (int one = 0; one < people.size(); one++) {
                least = Math.min(least, m.worthOf(one));
            }
            if (best == null || least > best[1]) {
                best = new int[] {d, least};
            }
        }
        return best == null ? new int[] {-2, -2} : best;
    }

    // ---- lanes

    boolean together(int one, int other) {
        int[] a = debts.get(one);
        int[] b = debts.get(other);
        return a[0] != b[0] && a[1] != b[1] && Math.abs(people.get(a[0])[0] - people.get(b[0])[0]) > clash;
    }

    private List<Integer> owed() {
        List<Integer> owed = new ArrayList<>();
        for (int d = 0; d < debts.size(); d++) {
            if (debts.get(d)[2] > 0) {
                owed.add(d);
            }
        }
        return owed;
    }

    /** The evenings of the DEBTS above 0, tried like the digits of a number; what begins wrongly is gone past at once. */
    int[] lane() {
        List<Integer> owed = owed();
        for (int many = 0; many <= owed.size(); many++) {
            int[] digits = new int[owed.size()];
            boolean more = many > 0 || digits.length == 0;
            while (more) {
                int wrong = firstClash(owed, digits);
                if (wrong < 0) {
                    return digits;
                }
                more = count(digits, wrong, many);
            }
        }
        return new int[0];
    }

    /** The next number that is unlike up to a place; a digit is at most one above all ahead of it (first needed). */
    private static boolean count(int[] digits, int place, int base) {
        java.util.Arrays.fill(digits, place + 1, digits.length, 0);
        for (int i = place; i >= 0; i--) {
            int top = -1;
            for (int j = 0; j < i; j++) {
                top = Math.max(top, digits[j]);
            }
            digits[i]++;
            if (digits[i] < base && digits[i] <= top + 1) {
                return true;
            }
            digits[i] = 0;
        }
        return false;
    }

    private int firstClash(List<Integer> owed, int[] evenings) {
        for (int i = 0; i < evenings.length; i++) {
            for (int j = 0; j < i; j++) {
                if (evenings[i] == evenings[j] && !together(owed.get(i), owed.get(j))) {
                    return i;
                }
            }
        }
        return -1;
    }

    int crowd() {
        int best = 0;
        for (int bits = (1 << debts.size()) - 1; bits > 0; bits--) {
            boolean so = true;
            for (int i = 0; i < debts.size() && so; i++) {
                if ((bits >> i & 1) != 0) {
                    so = debts.get(i)[2] > 0;
                    for (int j = 0; j < i && so; j++) {
                        so = (bits >> j & 1) == 0 || !together(i, j);
                    }
                }
            }
            if (so && Integer.bitCount(bits) >= Integer.bitCount(best)) {
                best = bits;
            }
        }
        return best;
    }

    /** Parted one unit of VOICE after the other would not be cut alike, so all shares are made first. */
    int share(int house, int one, int c) {
        int all = 0;
        for (int[] p : people) {
            all += near(p, house) ? p[1] + 1 : 0;
        }
        int left = c;
        int least = -1;
        int[] shares = new int[people.size()];
        for (int i = 0; i < people.size(); i++) {
            if (near(people.get(i), house)) {
                shares[i] = (int) Math.floor((double) c * (people.get(i)[1] + 1) / all + 1e-9);
                left -= shares[i];
                least = least < 0 ? i : least;
            }
        }
        if (least >= 0) {
            shares[least] += left;
        }
        return shares[one];
    }

    /** All is played out for real on copies; songs and payments so far are told by worth. */
    int byTurns(int debt, int turn, int n, int worth) {
        int[] d = debts.get(debt);
        int[] window = people.get(d[0]);
        if (turn == n) {
            return worth + Math.min(Math.min(d[2], window[3]), window[4] / 10);
        }
        int idle = copy().byTurns(debt, turn + 1, n, worth);
        Model m = copy();
        if (turn % 2 == 0) {
            m.people.get(d[0])[4] = Math.min(99, window[4] + moves(debt));
            return Math.max(idle, m.byTurns(debt, turn + 1, n, worth - 3));
        }
        int part = Math.min(10, Math.min(d[2], window[3]));
        m.debts.get(debt)[2] -= part;
        m.people.get(d[0])[3] -= part;
        return Math.min(idle, m.byTurns(debt, turn + 1, n, worth + part));
    }

    int drawn(int seed, int n, int m, int one) {
        long z = seed;
        int paid = 0;
        int purses = 0;
        for (int year = 0; year < n; year++) {
            Model thought = copy();
            for (int i = 0; i < m; i++) {
                z = (int) (z * 1103515245L + 12345L);
                long bits = z & 0xffffffffL;
                int song = NONE;
                if (!debts.isEmpty()) {
                    int debt = (int) ((bits >> 8) % debts.size());
                    song = (bits >> 16) % 12 < people.get(debts.get(debt)[1])[1] ? debt : NONE;
                }
                paid += thought.evening(song);
            }
            purses += one < 0 ? 0 : thought.people.get(one)[3];
        }
        return one < 0 ? paid : purses;
    }
}
