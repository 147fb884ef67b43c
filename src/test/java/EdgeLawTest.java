/** The sentences on THE TAPE and THE LAW that name a boundary: Terms, and promises 7 to 9. */
public final class EdgeLawTest {
    private static final int BAD = DebtSerenade.BAD, FULL = DebtSerenade.FULL;
    private static final int LEAST = Integer.MIN_VALUE, MOST = Integer.MAX_VALUE;
    /** 2 by the power of 31, which is the least int. */
    private static final String WRAPPED = "8192*4*8192*8";
    private static final Twins EMPTY = new Twins("an empty lane", Lanes::empty);
    private static final Twins RICH = new Twins("a rich lane", Lanes::rich);
    private static final Twins FILLED = new Twins("a full lane", Lanes::full);

    public static void main(String[] args) {
        feed();
        lawAndTape();
        tapeLength();
        firstBytes();
        laterBytes();
        lines();
        questions();
        comparing();
        digits();
        openAtOnce();
        faults();
        wrapping();
        dividing();
        truth();
        whichLine();
        held();
        heldInAll();
        withoutText();
        othersNear();
        moves();
        Check.finish();
    }

    private static void feed() {
        Check.says("A byte (0 .. 255) comes to THE TAPE: how many it has. BAD, FULL (120).");
        for (int letter : new int[] {-1, 256, LEAST, MOST}) {
            EMPTY.refuse("feed(" + letter + ")", BAD, x -> x.feed(letter));
            RICH.refuse("feed(" + letter + ")", BAD, x -> x.feed(letter));
            FILLED.refuse("BAD ahead of FULL: feed(" + letter + ")", BAD, x -> x.feed(letter));
        }
        for (int letter : new int[] {0, 'v', 255}) {
            FILLED.refuse("feed(" + letter + ")", FULL, x -> x.feed(letter));
        }
        DebtSerenade x = new DebtSerenade();
        for (int i = 0; i < 120; i++) {
            Check.due("a byte", x.feed(i % 3 == 0 ? 0 : i % 3 == 1 ? 255 : 'v'), i + 1);
            Check.due("how many", x.count(2), i + 1);
        }
        Check.due("the next", x.feed(0), FULL);
        Check.due("how many", x.count(2), 120);
    }

    private static void lawAndTape() {
        Check.says("THE TAPE becomes THE LAW: 1; -100 less its FAULT; THE TAPE is empty then.");
        DebtSerenade x = lane();
        Check.due("an empty tape", x.law(), -100);
        Check.due("as without a text", x.moves(0), 7);
        Check.due("a law", Check.law(x, "33"), 1);
        Check.due("an empty tape", x.count(2), 0);
        Check.due("the law", x.moves(0), 33);
        Check.due("an empty tape again", x.law(), -100);
        Check.due("the law is as it was", x.moves(0), 33);
        Check.due("a fault", Check.law(x, "44+"), -103);
        Check.due("an empty tape", x.count(2), 0);
        Check.due("the law is as it was", x.moves(0), 33);
        Check.due("from the first byte on again", Check.law(x, "44"), 1);
        Check.due("another law", x.moves(0), 44);
    }

    private static void tapeLength() {
        Check.says("THE LAW is a TEXT by THE TAPE (at most 120 bytes)");
        String text = "10+" + "1+".repeat(58) + "1";
        Check.due("bytes", text.length(), 120);
        DebtSerenade x = lane();
        for (int i = 0; i < 120; i++) {
            x.feed(text.charAt(i));
        }
        Check.due("the next is refused", x.feed('0'), FULL);
        Check.due("a law of 120 bytes", x.law(), 1);
        Check.due("all of it counts, and what was refused does not", x.moves(0), 69);
        Check.due("120 bytes that end too early", Check.law(lane(), "1+".repeat(60)), -220);
        Check.due("the last byte does not go on", Check.law(lane(), "1+".repeat(59) + "1)"), -219);
        Check.due("one byte", Check.law(lane(), "1"), 1);
    }

    private static void firstBytes() {
        Check.says("O = a number (1 to 4 digits), a NAME, ! O, - O, ( E ). No blanks.");
        for (int letter = 0; letter < 256; letter++) {
            boolean whole = "vhmsne0123456789".indexOf(letter) >= 0;
            boolean begins = "!-(".indexOf(letter) >= 0;
            DebtSerenade x = new DebtSerenade();
            x.feed(letter);
            Check.due("byte " + letter, x.law(), whole ? 1 : begins ? -101 : -100);
        }
        fault(" v", 0);
        fault("v ", 1);
        fault("v+ h", 2);
        fault("1 0", 1);
    }

    private static void laterBytes() {
        Check.says("FAULT: the place (from 0) of the first byte with which no TEXT goes on; the length, if it ends too"
            + " early.");
        String joining = "|&<=>+-*/%";
        byteBehind("v", "", joining + "?;");
        byteBehind("1", "0123456789", joining + "?;");
        byteBehind("123", "0123456789", joining + "?;");
        byteBehind("1234", "", joining + "?;");
        byteBehind("(v)", "", joining + "?;");
        byteBehind("v<h", "", "|&+-*/%?;");
        byteBehind("v=h+1", "0123456789", "|&+-*/%?;");
        byteBehind("v>h|m", "", joining + "?;");
        byteBehind("v>h&m", "", joining + "?;");
        byteBehind("v?h", "", joining + ";");
        byteBehind("v?h;m", "", joining + "?;");
        byteBehind("(v", ")", joining);
        byteBehind("((v)", ")", joining);
        byteBehind("(v<h", ")", "|&+-*/%");
        byteBehind("((v", "", joining + ")");
        byteBehind("(", "", "vhmsne0123456789!-(");
        for (String start : new String[] {"v|", "v&", "v<", "v+", "v-", "v*", "v/", "v%", "v?", "v;", "!", "-"}) {
            byteBehind(start, "vhmsne0123456789", "!-(");
        }
    }

    /** Each byte behind a start: with some a TEXT stands, with some one goes on; else the FAULT is that byte's place. */
    private static void byteBehind(String start, String ends, String goesOn) {
        for (int letter = 0; letter < 256; letter++) {
            DebtSerenade x = new DebtSerenade();
            for (char sign : start.toCharArray()) {
                x.feed(sign);
            }
            x.feed(letter);
            int fault = start.length() + (goesOn.indexOf(letter) >= 0 ? 1 : 0);
            Check.due("byte " + letter + " behind " + start, x.law(), ends.indexOf(letter) >= 0 ? 1 : -100 - fault);
        }
    }

    private static void lines() {
        Check.says("LINES, one or more, parted by ; .");
        fault("", 0);
        fault(";", 0);
        fault("v;", 2);
        fault(";v", 0);
        fault("v;;v", 2);
        fault("v;h;", 4);
        fault("v", -1);
        fault("v;h", -1);
        fault("v;".repeat(59) + "v", -1);
        fault("v;".repeat(60), 120);
    }

    private static void questions() {
        Check.says("LINE: E, or E ? E (what counts if the first is not 0).");
        fault("v?h", -1);
        fault("v?", 2);
        fault("?v", 0);
        fault("v??h", 2);
        fault("v?h?m", 3);
        fault("v?h;m?s", -1);
        fault("v?h;m?s?n", 7);
        fault("(v?h)", 2);
        fault("v?(h?m)", 4);
        fault("(v;h)", 2);
    }

    private static void comparing() {
        Check.says("B = S, or S < S, S = S, S > S.");
        for (char first : "<=>".toCharArray()) {
            fault("v" + first + "h", -1);
            fault("v" + first, 2);
            fault("" + first + "v", 0);
            for (char second : "<=>".toCharArray()) {
                fault("v" + first + "h" + second + "m", 3);
                fault("v" + first + second + "h", 2);
                fault("(v" + first + "h)" + second + "m", -1);
                fault("v" + first + "(h" + second + "m)", -1);
                fault("v" + first + "h&m" + second + "s", -1);
                fault("v" + first + "h|m" + second + "s", -1);
                fault("v" + first + "h?m" + second + "s", -1);
                fault("v" + first + "h;m" + second + "s", -1);
            }
        }
    }

    private static void digits() {
        Check.says("a number (1 to 4 digits)");
        worth("7", 7);
        worth("07", 7);
        worth("007", 7);
        worth("0007", 7);
        fault("00007", 4);
        fault("12345", 4);
        fault("99999", 4);
        fault("v+12345", 6);
        fault("12345+", 4);
        worth("0", 0);
        worth("0000", 0);
        worth("99", 99);
        worth("1000-999", 1);
        worth("9999-9998", 1);
        worth("9999/999", 10);
        worth("1234-1200+(1234)-1204", 64);
    }

    private static void openAtOnce() {
        Check.says("At most 6 of ( ! - ahead of an O are open at once.");
        for (char sign : "!-".toCharArray()) {
            fault(("" + sign).repeat(6) + "v", -1);
            fault(("" + sign).repeat(7) + "v", 6);
            fault("v*" + ("" + sign).repeat(6) + "v", -1);
            fault("v*" + ("" + sign).repeat(7) + "v", 8);
            fault(("" + sign).repeat(6), 6);
            fault(("" + sign).repeat(7), 6);
        }
        fault("((((((v))))))", -1);
        fault("(((((((v)))))))", 6);
        fault("((((((!v))))))", 6);
        fault("((((((-v))))))", 6);
        fault("((((((v-v))))))", -1);
        fault("((((((v--v))))))", 8);
        fault("(((((!v)))))", -1);
        fault("(((((!-v)))))", 6);
        fault("!-(!-(v))", -1);
        fault("!-(!-(-v))", 6);
        fault("!-(!-(v-v))", -1);
        fault("!!!!!!v-------v", -1);
        fault("!!!!!!v--------v", 14);
        // what is closed is open no more, and a number or a NAME closes all of ! - ahead of it
        fault("((((((v))))))+((((((v))))))", -1);
        fault("(((((!v+!v+(v))))))", -1);
        fault("!(!(v)+!v)+!(!(!(v)))", -1);
        fault("!!!(v)+(!!!(v)+!!!!!v)", -1);
        fault("!!!(v)+(!!!(v)+!!!!!!v)", 20);
        fault("!!!!!!v;!!!!!!v?!!!!!!v", -1);
        worth("------v", 5);
        worth("-----v+6", 1);
        worth("!!!!!!v", 1);
        worth("!!!!!v", 0);
        worth("((((((v))))))", 5);
    }

    private static void faults() {
        Check.says("the length, if it ends too early");
        String text = "(v+1)*-h<!s&12|m?n-(e/2)%3;9";
        for (int length = 0; length <= text.length(); length++) {
            String start = text.substring(0, length);
            boolean whole = length > 4 && ")vhsmne0123456789".indexOf(start.charAt(length - 1)) >= 0
                && start.chars().filter(c -> c == '(').count() == start.chars().filter(c -> c == ')').count();
            fault(start, whole ? -1 : length);
        }
        fault("v+*h+*m", 2);
        fault(")", 0);
        fault("v)", 1);
        fault("(v))", 3);
        fault("()", 1);
        fault("vh", 1);
        fault("v1", 1);
        fault("1v", 1);
        fault("(v)(h)", 3);
        fault("v!h", 1);
        fault("+v", 0);
        fault("V", 0);
    }

    private static void wrapping() {
        Check.says("Ints that wrap;");
        worth(WRAPPED, 0);
        worth(WRAPPED + "-1", 99);
        worth(WRAPPED + "-1+1", 0);
        worth("-(" + WRAPPED + ")", 0);
        worth("-(" + WRAPPED + ")-1", 99);
        worth("8192*8*8192*8+5", 5);
        worth(WRAPPED + "+" + WRAPPED + "+6", 6);
        worth("(" + WRAPPED + "-1)*2+9", 7);
        worth("-1-(" + WRAPPED + ")=" + WRAPPED + "-1", 1);
        worth(WRAPPED + "<0", 1);
        worth("0<" + WRAPPED + "-1", 1);
        worth(WRAPPED + "<" + WRAPPED + "-1", 1);
    }

    private static void dividing() {
        Check.says("/ and % toward 0, by 0 they give 0");
        worth("7/2", 3);
        worth("7%2", 1);
        worth("-7/2+10", 7);
        worth("-7%2+10", 9);
        worth("7/-2+10", 7);
        worth("7%-2+10", 11);
        worth("-7/-2+10", 13);
        worth("-7%-2+10", 9);
        worth("-1/2+10", 10);
        worth("1/-2+10", 10);
        worth("6/7", 0);
        worth("7/7", 1);
        worth("6%7", 6);
        worth("7%7", 0);
        worth("5/0", 0);
        worth("5%0", 0);
        worth("5/0+4", 4);
        worth("5%0+4", 4);
        worth("0/0+4", 4);
        worth("0%0+4", 4);
        worth("5/(v-v)+4", 4);
        worth("-5%(h-6)+4", 4);
        worth("8/0/0*3+2", 2);
        worth("(" + WRAPPED + ")/-1", 0);
        worth("(" + WRAPPED + ")/-1-1", 99);
        worth("(" + WRAPPED + ")%-1+3", 3);
        worth("(" + WRAPPED + ")/0+3", 3);
    }

    private static void truth() {
        Check.says("| & < = > ! give 1, 0; all is worked out.");
        String[] zero = {"0|0", "0&0", "0&7", "7&0", "5<5", "6<5", "4=5", "6=5", "5>5", "4>5", "!1", "!7", "!-1", "-1>0",
            "0<-1", "0|0&7"};
        for (String text : zero) {
            worth(text, 0);
        }
        String[] one = {"0|7", "7|0", "7|8", "-1|0", "0|-1", "7&8", "1&2", "-1&-1", "4<5", "-1<0", "5=5", "-1=-1", "6>5",
            "0>-1", "!0", "!!7", "!!-1", "7|5/0", "7|7%0"};
        for (String text : one) {
            worth(text, 1);
        }
    }

    private static void whichLine() {
        Check.says("The first LINE without a first E, or whose first E is not 0, counts; none: 0.");
        worth("1?7;8", 7);
        worth("-1?7;8", 7);
        worth("0?7;8", 8);
        worth("0?7;0?8;9;4", 9);
        worth("0?7;1?8;9", 8);
        worth("0;8", 0);
        worth("1?0;8", 0);
        worth("0?7", 0);
        worth("0?7;0?8", 0);
        worth("0?7;".repeat(29) + "0?7", 0);
        worth("0?7;".repeat(29) + "7?9", 9);
        worth(WRAPPED + "?7;8", 7);
        worth("8192*8*8192*8?7;8", 8);
        DebtSerenade x = lane();
        Check.due("a longer law", Check.law(x, "0?1;0?2;0?3;44;55;66"), 1);
        Check.due("its fourth line", x.moves(0), 44);
        Check.due("a shorter law, of which none counts", Check.law(x, "0?7"), 1);
        Check.due("nothing is left of the longer one", x.moves(0), 0);
        Check.due("a longer fault", Check.law(x, "0?1;0?2;0?3;44;55;66;"), -121);
        Check.due("a shorter law, of which none counts", Check.law(x, "0?7;0?8"), 1);
        Check.due("nothing is left of the fault", x.moves(0), 0);
    }

    private static void held() {
        Check.says("It gives by how much he is MOVED by a song (held within 0 .. 99; 99 in all at most).");
        int[][] held = {{-9999, 0}, {-1, 0}, {0, 0}, {1, 1}, {98, 98}, {99, 99}, {100, 99}, {101, 99}, {9999, 99}};
        for (int[] told : held) {
            DebtSerenade x = Lanes.pair(50);
            x.mend(0, 3, 0);
            String text = (told[0] < 0 ? "-" : "") + Math.abs(told[0]);
            Check.due("law", Check.law(x, text), 1);
            Check.due("moves by " + text, x.moves(0), told[1]);
            x.evening(0);
            Check.due("moved by " + text, x.of(0, 4), told[1]);
        }
    }

    private static void heldInAll() {
        Check.says("99 in all at most");
        for (int moved : new int[] {0, 1, 50, 97, 98, 99}) {
            for (int more : new int[] {0, 1, 2, 49, 50, 98, 99}) {
                DebtSerenade x = Lanes.pair(50);
                x.mend(0, 3, 0);
                x.mend(0, 4, moved);
                Check.due("law", Check.law(x, "" + more), 1);
                Check.row(x, 0, 0, 0);
                String name = moved + " and " + more;
                Check.due("as told by the law, " + name, x.moves(0), more);
                Check.due("in thought, " + name, x.later(0, 1, 0, 2), Math.min(99, moved + more));
                x.evening(0);
                Check.due("in deed, " + name, x.of(0, 4), Math.min(99, moved + more));
            }
        }
    }

    private static void withoutText() {
        Check.says("Without a text: v and h by 3 (cut).");
        int[] thirds = {0, 0, 0, 1, 1, 1, 2, 2, 2, 3, 3, 3, 4};
        for (int heart = 0; heart <= 12; heart++) {
            for (int voice : new int[] {0, 1, 8, 9}) {
                DebtSerenade x = Lanes.pair(50);
                x.mend(0, 2, heart);
                x.mend(1, 1, voice);
                Check.due("HEART " + heart + ", VOICE " + voice, x.moves(0), voice + thirds[heart]);
            }
        }
    }

    private static void othersNear() {
        Check.says("n how many others live in HOUSES no more than CLASH from his");
        for (int window : new int[] {0, 7, 15}) {
            for (int clash = 0; clash <= 15; clash++) {
                DebtSerenade x = new DebtSerenade();
                Check.people(x, window, 0, 15, 7, 6, 9, 10, window);
                x.debt(1, 5);
                x.mend(0, 6, clash);
                int near = 1;
                for (int house : new int[] {0, 15, 7, 6, 9, 10}) {
                    near += Math.abs(house - window) <= clash ? 1 : 0;
                }
                Check.due("law", Check.law(x, "n"), 1);
                Check.due("at " + window + ", CLASH " + clash, x.moves(0), near);
            }
        }
        DebtSerenade x = new DebtSerenade();
        Check.people(x, 5, 8);
        x.debt(1, 5);
        Check.due("law", Check.law(x, "n"), 1);
        Check.due("3 from his, CLASH 2", x.moves(0), 0);
        x.mend(1, 0, 7);
        Check.due("2 from his", x.moves(0), 1);
        x.mend(1, 0, 3);
        Check.due("2 on the other side", x.moves(0), 1);
        x.mend(1, 0, 2);
        Check.due("3 on the other side", x.moves(0), 0);
        x.mend(1, 0, 5);
        x.debt(10, 5);
        Check.due("the first is another one to the second", x.moves(1), 1);
    }

    private static void moves() {
        Check.says("By how much BY of a DEBT would be MOVED by a song now (as told by THE LAW, 0 .. 99). BAD.");
        for (int debt : new int[] {-1, 12, LEAST, MOST}) {
            EMPTY.refuse("moves(" + debt + ")", BAD, x -> x.moves(debt));
            RICH.refuse("moves(" + debt + ")", BAD, x -> x.moves(debt));
            FILLED.refuse("moves(" + debt + ")", BAD, x -> x.moves(debt));
        }
        EMPTY.refuse("moves(0)", BAD, x -> x.moves(0));
        RICH.refuse("moves(5)", BAD, x -> x.moves(5));
        DebtSerenade x = Lanes.debts(12);
        for (int debt = 0; debt < 12; debt++) {
            Check.due("moves(" + debt + ")", x.moves(debt), 7);
        }
        Check.due("law", Check.law(x, "s"), 1);
        Check.due("the first", x.moves(0), 10);
        Check.due("the last", x.moves(11), 21);
        x.mend(0, 5, 0);
        x.mend(11, 5, 999);
        Check.due("0", x.moves(0), 0);
        Check.due("99", x.moves(11), 99);
    }

    /** VOICE 5, HEART 6, MOVED 7, SUM 88, two others near, EVENING 9. */
    private static DebtSerenade lane() {
        DebtSerenade x = new DebtSerenade();
        Check.people(x, 4, 6, 7, 2);
        x.debt(1, 88);
        x.mend(0, 4, 7);
        x.mend(0, 7, 9);
        return x;
    }

    private static void worth(String text, int want) {
        DebtSerenade x = lane();
        Check.due("law " + text, Check.law(x, text), 1);
        Check.due("moves by " + text, x.moves(0), want);
    }

    /** The FAULT of a text; -1: none. */
    private static void fault(String text, int place) {
        DebtSerenade x = lane();
        Check.due("law of " + text, Check.law(x, text), place < 0 ? 1 : -100 - place);
        Check.due("tape behind " + text, x.count(2), 0);
    }
}
