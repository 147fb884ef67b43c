/** The sentences on windows that clash that name a boundary: Terms, and promises 19, 20 and 23. */
public final class EdgeLanesTest {
    private static final int BAD = DebtSerenade.BAD, NOT = DebtSerenade.NOT;
    private static final int LEAST = Integer.MIN_VALUE, MOST = Integer.MAX_VALUE;
    private static final Twins EMPTY = new Twins("an empty lane", Lanes::empty);
    private static final Twins RICH = new Twins("a rich lane", Lanes::rich);
    private static final Twins FILLED = new Twins("a full lane", Lanes::full);

    public static void main(String[] args) {
        clash();
        laneOfWhich();
        aboveZero();
        whoClashes();
        laneFewest();
        laneFirst();
        crowdWhat();
        crowdMost();
        shareRanges();
        whoHears();
        leftOver();
        Check.finish();
    }

    /** Windows of 0 and 1, at two houses; the singers 2 and 3 are unlike. */
    private static DebtSerenade windows(int house, int other, int clash) {
        DebtSerenade x = new DebtSerenade();
        Check.people(x, house, other, 4, 5);
        x.debt(2, 1);
        x.debt(13, 1);
        x.mend(0, 6, clash);
        return x;
    }

    private static void clash() {
        Check.says("WINDOWS clash, if two HOUSES are no more than CLASH apart.");
        for (int clash = 0; clash <= 15; clash++) {
            for (int house = 0; house <= 15; house++) {
                for (int other : new int[] {house - clash - 1, house - clash, house + clash, house + clash + 1}) {
                    if (other < 0 || other > 15) {
                        continue;
                    }
                    boolean clashes = Math.abs(house - other) <= clash;
                    DebtSerenade x = windows(house, other, clash);
                    String name = house + " and " + other + ", CLASH " + clash;
                    Check.due("evenings, " + name, x.lane(-1), clashes ? 2 : 1);
                    Check.due("the second, " + name, x.lane(1), clashes ? 1 : 0);
                    Check.due("crowd, " + name, x.crowd(0), clashes ? 2 : 1);
                    Check.due("which, " + name, x.crowd(1), clashes ? 3 : 1);
                }
            }
        }
    }

    private static void laneOfWhich() {
        Check.says("LANE: how many (k -1), the evening of DEBT k. BAD; NOT.");
        for (int k : new int[] {-2, 12, LEAST, MOST}) {
            EMPTY.refuse("lane(" + k + ")", BAD, x -> x.lane(k));
            RICH.refuse("lane(" + k + ")", BAD, x -> x.lane(k));
            FILLED.refuse("lane(" + k + ")", BAD, x -> x.lane(k));
        }
        EMPTY.refuse("lane(0)", BAD, x -> x.lane(0));
        RICH.refuse("lane(5)", BAD, x -> x.lane(5));
        RICH.refuse("SUM 0: lane(1)", NOT, x -> x.lane(1));
        RICH.refuse("let off: lane(4)", NOT, x -> x.lane(4));
        Check.due("no debts", new DebtSerenade().lane(-1), 0);
        Check.due("no debts", Lanes.people(8).lane(-1), 0);
    }

    private static void aboveZero() {
        Check.says("LANE: to sing all DEBTS above 0 with as few evenings as may be");
        DebtSerenade x = windows(3, 3, 2);
        x.mend(0, 5, 0);
        Check.due("one is 0", x.lane(-1), 1);
        Check.due("of the first", x.lane(0), NOT);
        Check.due("of the second", x.lane(1), 0);
        x.mend(1, 5, 0);
        Check.due("both are 0", x.lane(-1), 0);
        Check.due("of the second", x.lane(1), NOT);
        Check.due("no crowd", x.crowd(0), 0);
        x.mend(0, 5, 1);
        Check.due("1 is above 0", x.lane(-1), 1);
        x.mend(1, 5, 999);
        Check.due("both", x.lane(-1), 2);
    }

    private static void whoClashes() {
        Check.says("on each of which no two windows clash, nobody sings two, nobody is sung to twice");
        DebtSerenade x = new DebtSerenade();
        Check.people(x, 0, 5, 10, 15);
        x.mend(0, 6, 0);
        x.debt(1, 5);
        x.debt(12, 5);
        Check.due("who sings may be sung to", x.lane(-1), 1);
        x.debt(20, 5);
        Check.due("all the way round", x.lane(-1), 1);
        Check.due("no two clash", x.crowd(0), 1);
        x.debt(31, 5);
        Check.due("1 sings two", x.lane(-1), 2);
        Check.due("on the second", x.lane(3), 1);
        x.mend(3, 5, 0);
        x.debt(3, 5);
        Check.due("0 is sung to twice", x.lane(-1), 2);
        Check.due("on the second", x.lane(4), 1);
    }

    private static void laneFewest() {
        Check.says("how many; the evening (0 on) of DEBT k");
        DebtSerenade x = Lanes.people(2);
        for (int debt = 0; debt < 12; debt++) {
            x.debt(1, 1);
            Check.due("evenings", x.lane(-1), debt + 1);
            Check.due("the first", x.lane(0), 0);
            Check.due("the last", x.lane(debt), debt);
            Check.due("crowd", x.crowd(0), debt + 1);
            Check.due("which", x.crowd(1), (2 << debt) - 1);
        }
        DebtSerenade y = Lanes.people(8);
        y.mend(0, 6, 0);
        for (int one = 0; one < 8; one++) {
            y.debt(10 * one + (one + 1) % 8, 1);
        }
        Check.due("eight on one evening", y.lane(-1), 1);
        for (int debt = 0; debt < 8; debt++) {
            Check.due("evening", y.lane(debt), 0);
        }
        y.mend(0, 6, 15);
        Check.due("eight evenings", y.lane(-1), 8);
        Check.due("the last", y.lane(7), 7);
        Check.due("eight", y.crowd(0), 8);
        y.mend(0, 6, 0);
        Check.due("one evening again", y.lane(-1), 1);
        Check.due("the last", y.lane(7), 0);
        Check.due("one", y.crowd(0), 1);
    }

    private static void laneFirst() {
        Check.says("(as they are first needed; of like ones the first by DEBTS one behind the other; NOT: SUM 0)");
        DebtSerenade x = new DebtSerenade();
        Check.people(x, 0, 8, 1, 15, 4, 12);
        x.mend(0, 6, 1);
        x.debt(4, 1);
        x.debt(15, 1);
        x.debt(23, 1);
        // windows 0, 8, 1: the first and the third clash; the second might be sung on either evening
        Check.due("two", x.lane(-1), 2);
        Check.due("of 0", x.lane(0), 0);
        Check.due("of 1, the first that will do", x.lane(1), 0);
        Check.due("of 2", x.lane(2), 1);
        x.mend(0, 5, 0);
        Check.due("one", x.lane(-1), 1);
        Check.due("SUM 0", x.lane(0), NOT);
        Check.due("the first that is needed is 0", x.lane(2), 0);
    }

    private static void crowdWhat() {
        Check.says("CROWD: how many (what 0), which (1). BAD.");
        for (int what : new int[] {-1, 2, LEAST, MOST}) {
            EMPTY.refuse("crowd(" + what + ")", BAD, x -> x.crowd(what));
            RICH.refuse("crowd(" + what + ")", BAD, x -> x.crowd(what));
            FILLED.refuse("crowd(" + what + ")", BAD, x -> x.crowd(what));
        }
        for (int what = 0; what < 2; what++) {
            Check.due("no debts", new DebtSerenade().crowd(what), 0);
            Check.due("people alone", Lanes.people(8).crowd(what), 0);
        }
    }

    private static void crowdMost() {
        Check.says("CROWD: the most DEBTS above 0 no two of which could be on one evening: how many; which (bits; of like"
            + " ones the least).");
        DebtSerenade x = Lanes.people(8);
        x.mend(0, 6, 0);
        x.debt(1, 0);
        Check.due("SUM 0 is none", x.crowd(0), 0);
        Check.due("which", x.crowd(1), 0);
        x.debt(12, 1);
        Check.due("one alone", x.crowd(0), 1);
        Check.due("which", x.crowd(1), 2);
        x.debt(23, 1);
        Check.due("of like ones the least", x.crowd(1), 2);
        x.debt(45, 1);
        x.debt(65, 1);
        Check.due("two that one sings", x.crowd(1), 8 + 16);
        x.debt(25, 1);
        Check.due("three", x.crowd(1), 8 + 16 + 32);
        x.mend(0, 5, 1);
        x.mend(0, 6, 1);
        // windows 0, 1, 2, 4, 6, 2: 1 is near 0 and 2, and 2 is sung to twice
        Check.due("of two threes the least", x.crowd(1), 2 + 4 + 32);
        x.mend(0, 6, 15);
        Check.due("all", x.crowd(1), 63);
        Check.due("how many", x.crowd(0), 6);
    }

    private static void shareRanges() {
        Check.says("`int share(int house, int one, int c)`: KEEP. BAD.");
        for (int house : new int[] {-1, 16, LEAST, MOST}) {
            RICH.refuse("share(" + house + ", 0, 5)", BAD, x -> x.share(house, 0, 5));
        }
        for (int one : new int[] {-1, 5, 8, LEAST, MOST}) {
            RICH.refuse("share(0, " + one + ", 5)", BAD, x -> x.share(0, one, 5));
            EMPTY.refuse("share(0, " + one + ", 5)", BAD, x -> x.share(0, one, 5));
        }
        for (int c : new int[] {-1, 1000, LEAST, MOST}) {
            RICH.refuse("share(0, 0, " + c + ")", BAD, x -> x.share(0, 0, c));
            RICH.refuse("who does not hear it: share(15, 0, " + c + ")", BAD, x -> x.share(15, 0, c));
        }
        Check.says("KEEP: it costs c (0 .. 999) to keep a song");
        EMPTY.refuse("share(0, 0, 0)", BAD, x -> x.share(0, 0, 0));
        FILLED.refuse("share(0, 8, 0)", BAD, x -> x.share(0, 8, 0));
        DebtSerenade x = new DebtSerenade();
        Check.people(x, 0, 15);
        for (int c : new int[] {0, 1, 998, 999}) {
            Check.due("alone at 0", x.share(0, 0, c), c);
            Check.due("alone at 15", x.share(15, 1, c), c);
            Check.due("not heard", x.share(15, 0, c), 0);
        }
    }

    private static void whoHears() {
        Check.says("all who live no more than CLASH from a HOUSE share it by VOICE and 1 (cut)");
        for (int clash = 0; clash <= 15; clash++) {
            for (int house : new int[] {0, 7, 15}) {
                DebtSerenade x = new DebtSerenade();
                for (int at : new int[] {house - clash - 1, house - clash, house + clash, house + clash + 1}) {
                    x.person(at);
                }
                x.mend(0, 6, clash);
                int hear = 0;
                for (int one = 0; one < x.count(0); one++) {
                    hear += Math.abs(x.of(one, 0) - house) <= clash ? 1 : 0;
                }
                for (int one = 0; one < x.count(0); one++) {
                    boolean hears = Math.abs(x.of(one, 0) - house) <= clash;
                    String name = "at " + x.of(one, 0) + " of " + house + ", CLASH " + clash;
                    Check.due(name, x.share(house, one, 840), hears ? 840 / hear : 0);
                }
            }
        }
        DebtSerenade x = new DebtSerenade();
        Check.people(x, 3, 3);
        x.mend(0, 1, 0);
        x.mend(1, 1, 9);
        Check.due("VOICE 0 by 1 of 11", x.share(3, 0, 11), 1);
        Check.due("VOICE 9 by 10 of 11", x.share(3, 1, 11), 10);
        x.mend(1, 1, 0);
        Check.due("nobody has a VOICE: halves", x.share(3, 1, 11), 5);
        Check.due("and what is left over", x.share(3, 0, 11), 6);
    }

    private static void leftOver() {
        Check.says("the least of them pays what is left over: one's share; 0, if he does not hear it.");
        DebtSerenade x = new DebtSerenade();
        Check.people(x, 15, 3, 3, 3, 3, 3, 3, 3);
        for (int c : new int[] {0, 1, 6, 7, 8, 13, 14, 999}) {
            Check.due("who does not hear it, of " + c, x.share(3, 0, c), 0);
            Check.due("the least of them, of " + c, x.share(3, 1, c), c / 7 + c % 7);
            for (int one = 2; one < 8; one++) {
                Check.due("another, of " + c, x.share(3, one, c), c / 7);
            }
        }
        x.mend(0, 0, 3);
        Check.due("now he is the least", x.share(3, 0, 7), 7);
        Check.due("and 1 is not", x.share(3, 1, 7), 0);
        x.mend(7, 1, 0);
        Check.due("the least number, not the least VOICE", x.share(3, 0, 7), 7);
        Check.due("the least VOICE", x.share(3, 7, 7), 0);
    }
}
