import java.util.Random;

/** Promises 7 to 9: feed, law, moves; the texts of THE LAW against Model's own reading of them. */
public final class LawTest {
    private static final String SIGNS = "vhmsne0123456789|&<=>+-*/%!()?;";

    public static void main(String[] args) {
        tape();
        faults();
        worth();
        names();
        held();
        deep();
        randomTexts();
        Check.finish();
    }

    private static void tape() {
        DebtSerenade x = new DebtSerenade();
        Check.due("feed(-1)", x.feed(-1), DebtSerenade.BAD);
        Check.due("feed(256)", x.feed(256), DebtSerenade.BAD);
        for (int i = 1; i <= 120; i++) {
            Check.due("feed", x.feed(i % 2 == 0 ? '+' : '1'), i);
            Check.due("count(2)", x.count(2), i);
        }
        Check.due("FULL", x.feed('1'), DebtSerenade.FULL);
        Check.due("BAD ahead of FULL", x.feed(256), DebtSerenade.BAD);
        Check.due("ends too early", x.law(), -220);
        Check.due("empty then", x.count(2), 0);
        Check.due("feed(0)", x.feed(0), 1);
        Check.due("feed(255)", x.feed(255), 2);
        Check.due("law", x.law(), -100);
        Check.due("empty then", x.count(2), 0);
    }

    private static void faults() {
        fault("", 0);
        fault("v", -1);
        fault("vv", 1);
        fault("v+", 2);
        fault("v+*", 2);
        fault("1234", -1);
        fault("12345", 4);
        fault("0001", -1);
        fault("12v", 2);
        fault("v<h<m", 3);
        fault("v<h=m", 3);
        fault("v<h+1>m", 5);
        fault("v<h&m>s", -1);
        fault("(v<h)<m", -1);
        fault("v<(h<m)", -1);
        fault("v?h", -1);
        fault("v?h?m", 3);
        fault("(v?h)", 2);
        fault("(v;h)", 2);
        fault("v;", 2);
        fault("v;h", -1);
        fault("v;;h", 2);
        fault(";v", 0);
        fault("?v", 0);
        fault("v?", 2);
        fault("v?h;m?s;n", -1);
        fault("!!!!!!v", -1);
        fault("!!!!!!!v", 6);
        fault("------v", -1);
        fault("v-------v", -1);
        fault("v--------v", 8);
        fault("((((((v))))))", -1);
        fault("(((((((v)))))))", 6);
        fault("!-(!-(v))", -1);
        fault("!-(!-(!v))", 6);
        fault("!-(!-v+(!v))", -1);
        fault("!!!!!!v+!!!!!!h", -1);
        fault("((((((v))))))+((((((h))))))", -1);
        fault("(((((!v+!h)))))", -1);
        fault("(v", 2);
        fault("(v))", 3);
        fault("()", 1);
        fault("v h", 1);
        fault("V", 0);
        fault("x", 0);
        fault("v+(h*(m-3)", 10);
        fault("!", 1);
        fault("v|", 2);
        fault("v||h", 2);
        fault("v+h)", 3);
    }

    private static void fault(String text, int place) {
        DebtSerenade x = new DebtSerenade();
        int want = place < 0 ? 1 : -100 - place;
        Check.due("law of " + text, Check.law(x, text), want);
        Check.due("tape behind " + text, x.count(2), 0);
        Check.due("Model's fault of " + text, Model.fault(text), place);
    }

    /** VOICE 5, HEART 6, MOVED 7, SUM 88, two others near, EVENING 9. */
    private static DebtSerenade lane() {
        DebtSerenade x = new DebtSerenade();
        Check.people(x, 4, 6, 7, 2);
        x.debt(1, 88);
        x.mend(0, 4, 7);
        x.mend(0, 7, 9);
        return x;
    }

    private static void worth() {
        worth("7-2-1", 4);
        worth("2+3*4", 14);
        worth("20/6*6", 18);
        worth("20%6", 2);
        worth("5/0", 0);
        worth("5%0+3", 3);
        worth("0-7/2+10", 7);
        worth("(0-7)/2+10", 7);
        worth("(0-7)%3+10", 9);
        worth("-7/2+10", 7);
        worth("--7", 7);
        worth("5-3", 2);
        worth("5--3", 8);
        worth("!5", 0);
        worth("!0", 1);
        worth("!!5", 1);
        worth("!0+1", 2);
        worth("2|0", 1);
        worth("0|0", 0);
        worth("2&3", 1);
        worth("2&0", 0);
        worth("0&1|1", 1);
        worth("1|1&0", 1);
        worth("(1|1)&0", 0);
        worth("2<3", 1);
        worth("3<3", 0);
        worth("3=3", 1);
        worth("3>2", 1);
        worth("2>3", 0);
        worth("1+1=2", 1);
        worth("v?h", 6);
        worth("0?5", 0);
        worth("0?5;7", 7);
        worth("1?5;7", 5);
        worth("v>5?1;h>5?2;3", 2);
        worth("v>5?1;h>6?2;3", 3);
        worth("0?1;0?2", 0);
        worth("3;4", 3);
        worth("1?0;4", 0);
        worth("9999*9999*9999%97", 9999 * 9999 * 9999 % 97 < 0 ? 0 : 9999 * 9999 * 9999 % 97);
        worth("0-9999*9999*9999%97", 9999 * 9999 * 9999 % 97 > 0 ? 0 : -(9999 * 9999 * 9999 % 97));
        worth("0010", 10);
    }

    private static void worth(String text, int want) {
        DebtSerenade x = lane();
        Check.due("law " + text, Check.law(x, text), 1);
        Check.due("moves by " + text, x.moves(0), want);
    }

    private static void names() {
        worth("v", 5);
        worth("h", 6);
        worth("m", 7);
        worth("s", 88);
        worth("n", 2);
        worth("e", 9);
        DebtSerenade x = lane();
        Check.due("without a text", x.moves(0), 7);
        x.mend(1, 1, 9);
        x.mend(0, 2, 11);
        Check.due("v and h by 3", x.moves(0), 12);
        Check.due("law n", Check.law(x, "n"), 1);
        x.mend(0, 6, 1);
        Check.due("nearer", x.moves(0), 0);
        x.mend(0, 6, 3);
        Check.due("farther", x.moves(0), 3);
        x.mend(0, 6, 0);
        x.mend(2, 0, 4);
        Check.due("same house", x.moves(0), 1);
    }

    private static void held() {
        DebtSerenade x = lane();
        Check.due("BAD", x.moves(1), DebtSerenade.BAD);
        Check.due("BAD", x.moves(-1), DebtSerenade.BAD);
        Check.due("law", Check.law(x, "s*2"), 1);
        Check.due("99 at most", x.moves(0), 99);
        Check.due("fault", Check.law(x, "h+"), -102);
        Check.due("the law stays", x.moves(0), 99);
        Check.due("fault", Check.law(x, "+h"), -100);
        Check.due("the law stays", x.moves(0), 99);
        Check.due("an empty tape", x.law(), -100);
        Check.due("the law stays", x.moves(0), 99);
        Check.due("law", Check.law(x, "0-s"), 1);
        Check.due("0 at least", x.moves(0), 0);
        x.mend(0, 4, 95);
        Check.due("law", Check.law(x, "9"), 1);
        Check.due("as told by the law", x.moves(0), 9);
        x.mend(0, 3, 0);
        x.evening(0);
        Check.due("99 in all", x.of(0, 4), 99);
    }

    /** As much as can wait for a second operand at once, and as many lines as a tape has room for. */
    private static void deep() {
        String text = "0|1&9>2+1*(".repeat(6) + "0|1&9>2+1*n" + "))))))";
        Check.due("Model's worth", Model.worth(text, new int[] {5, 6, 7, 88, 2, 9}), 1);
        worth(text, 1);
        worth(text.replace("*n", "*h"), Model.worth(text.replace("*n", "*h"), new int[] {5, 6, 7, 88, 2, 9}));
        worth("3-(".repeat(6) + "3-1" + "))))))", 2);
        worth("0?1;".repeat(29) + "1?77", 77);
        worth("0;".repeat(59) + "77", 0);
        worth("1+".repeat(59) + "1", 60);
        worth("1234+".repeat(20) + "0-1234*20+55", 55);
    }

    private static void randomTexts() {
        Random random = new Random(20261118);
        for (int i = 0; i < 30000; i++) {
            String text = i % 3 == 0 ? noise(random) : marred(random, Model.text(random));
            if (text.length() > 120) {
                continue;
            }
            DebtSerenade x = lane();
            int fault = Model.fault(text);
            int got = Check.law(x, text);
            Check.due("law of " + text, got, fault < 0 ? 1 : -100 - fault);
            int want = fault < 0 ? Math.max(0, Math.min(99, Model.worth(text, new int[] {5, 6, 7, 88, 2, 9}))) : 7;
            Check.due("moves by " + text, x.moves(0), want);
        }
    }

    private static String noise(Random random) {
        StringBuilder text = new StringBuilder();
        int length = random.nextInt(9);
        for (int i = 0; i < length; i++) {
            text.append(SIGNS.charAt(random.nextInt(SIGNS.length())));
        }
        return text.toString();
    }

    private static String marred(Random random, String text) {
        if (random.nextInt(3) > 0 || text.isEmpty()) {
            return text;
        }
        int place = random.nextInt(text.length());
        char sign = SIGNS.charAt(random.nextInt(SIGNS.length()));
        return switch (random.nextInt(3)) {
            case 0 -> text.substring(0, place) + text.substring(place + 1);
            case 1 -> text.substring(0, place) + sign + text.substring(place);
            default -> text.substring(0, place) + sign + text.substring(place + 1);
        };
    }
}
