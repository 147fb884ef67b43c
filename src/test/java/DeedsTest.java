/** Promises 26 to 33: evening, lend, letOff, led, image, back, undo, redo. */
public final class DeedsTest {
    public static void main(String[] args) {
        evening();
        lend();
        letOff();
        image();
        undo();
        undoBesideDeeds();
        Check.finish();
    }

    private static DebtSerenade three() {
        DebtSerenade x = new DebtSerenade();
        Check.people(x, 1, 9, 5);
        x.debt(1, 90);
        x.debt(12, 3);
        return x;
    }

    private static void led(DebtSerenade x, int... want) {
        for (int what = 0; what < 5; what++) {
            Check.due("led(" + what + ")", x.led(what), want[what]);
        }
    }

    private static void evening() {
        DebtSerenade x = three();
        Check.due("BAD", x.evening(2), DebtSerenade.BAD);
        Check.due("BAD", x.evening(-1), DebtSerenade.BAD);
        Check.due("BAD", x.evening(11), DebtSerenade.BAD);
        Check.due("BAD", x.evening(13), DebtSerenade.BAD);
        Check.due("BAD", x.led(-1), DebtSerenade.BAD);
        Check.due("BAD", x.led(5), DebtSerenade.BAD);
        led(x, 0, 0, 0, 0, 0);
        x.mend(0, 4, 50);
        x.mend(1, 4, 1);
        Check.due("57 pays 5", x.evening(0), 5);
        Check.due("moved", x.of(0, 4), 47);
        Check.due("the singer cools", x.of(1, 4), 0);
        Check.due("0 at least", x.of(2, 4), 0);
        Check.due("sum", x.of(0, 5), 85);
        Check.due("purse", x.of(0, 3), 45);
        Check.due("purse", x.of(1, 3), 55);
        Check.due("evening", x.of(0, 7), 1);
        Check.due("none", x.evening(12), 0);
        Check.due("all cool", x.of(0, 4), 46);
        x.mend(1, 4, 60);
        Check.due("no more than sum", x.evening(1), 3);
        Check.due("ten less", x.of(1, 4), 57);
        Check.due("sung for nothing", x.evening(1), 0);
        Check.due("moved all the same", x.of(1, 4), 64);
        x.mend(0, 4, 12);
        Check.due("below 20", x.evening(0), 0);
        Check.due("not less", x.of(0, 4), 19);
        x.mend(0, 4, 13);
        Check.due("20", x.evening(0), 2);
        x.mend(0, 4, 99);
        x.mend(0, 3, 4);
        Check.due("no more than purse", x.evening(0), 4);
        Check.due("nothing left", x.evening(0), 0);
        Check.due("99 at most", x.of(0, 4), 96);
        led(x, 8, 7, 14, 0, 0);
        x.mend(0, 7, 98);
        x.evening(12);
        x.evening(12);
        Check.due("99 stays", x.of(0, 7), 99);
        led(x, 10, 7, 14, 0, 0);
        x.mend(0, 3, 9);
        x.mend(1, 3, 997);
        x.mend(0, 4, 99);
        Check.due("all of it is paid", x.evening(0), 9);
        Check.due("what is above is lost", x.of(1, 3), 999);
    }

    private static void lend() {
        DebtSerenade x = three();
        Check.due("BAD", x.lend(2, 1), DebtSerenade.BAD);
        Check.due("BAD", x.lend(-1, 1), DebtSerenade.BAD);
        Check.due("BAD", x.lend(0, 0), DebtSerenade.BAD);
        Check.due("BAD", x.lend(0, 1000), DebtSerenade.BAD);
        Check.due("BAD ahead of STATE", x.lend(0, -5), DebtSerenade.BAD);
        Check.due("purse has not so much", x.lend(0, 51), DebtSerenade.STATE);
        Check.due("lend", x.lend(0, 50), 140);
        Check.due("purse of to", x.of(1, 3), 0);
        Check.due("purse of by", x.of(0, 3), 100);
        Check.due("empty", x.lend(0, 1), DebtSerenade.STATE);
        led(x, 0, 0, 0, 50, 0);
        x.mend(1, 3, 999);
        Check.due("sum above", x.lend(0, 860), DebtSerenade.STATE);
        Check.due("sum to the top", x.lend(0, 859), 999);
        Check.due("purse", x.of(0, 3), 959);
        Check.due("purse", x.of(1, 3), 140);
        x.mend(0, 5, 0);
        Check.due("lend", x.lend(0, 140), 140);
        Check.due("999 at most", x.of(0, 3), 999);
        led(x, 0, 0, 0, 1049, 0);
        x.mend(1, 3, 999);
        x.mend(0, 5, 0);
        Check.due("as much as can be", x.lend(0, 999), 999);
        Check.due("purse", x.of(1, 3), 0);
    }

    private static void letOff() {
        DebtSerenade x = three();
        Check.due("BAD", x.letOff(2), DebtSerenade.BAD);
        Check.due("BAD", x.letOff(-1), DebtSerenade.BAD);
        Check.due("let off", x.letOff(0), 90);
        Check.due("sum", x.of(0, 5), 0);
        Check.due("again", x.letOff(0), 0);
        Check.due("purse", x.of(0, 3), 50);
        led(x, 0, 0, 0, 0, 90);
        Check.due("no change", x.count(3), 0);
    }

    private static void image() {
        DebtSerenade x = three();
        Check.due("none", x.back(), DebtSerenade.STATE);
        x.mend(0, 4, 50);
        x.mend(0, 7, 70);
        x.evening(0);
        Check.due("evenings that were led", x.image(), 1);
        x.evening(0);
        x.lend(1, 20);
        x.letOff(0);
        x.mend(0, 6, 9);
        x.mend(0, 0, 3);
        x.mend(0, 1, 3);
        x.mend(0, 2, 3);
        Check.due("person", x.person(4), 3);
        x.debt(3, 44);
        x.mend(3, 3, 77);
        x.mend(3, 4, 8);
        int changes = x.count(3);
        Check.due("back", x.back(), 1);
        led(x, 1, 1, 5, 0, 0);
        int[] purses = {45, 55, 50, 77};
        int[] moved = {47, 0, 0, 8};
        for (int one = 0; one < 4; one++) {
            Check.due("purse", x.of(one, 3), purses[one]);
            Check.due("moved", x.of(one, 4), moved[one]);
        }
        Check.due("sum", x.of(0, 5), 85);
        Check.due("sum", x.of(1, 5), 3);
        Check.due("a debt that came since", x.of(2, 5), 44);
        Check.due("evening", x.of(0, 7), 71);
        Check.due("clash stays", x.of(0, 6), 9);
        Check.due("house stays", x.of(0, 0), 3);
        Check.due("voice stays", x.of(0, 1), 3);
        Check.due("heart stays", x.of(0, 2), 3);
        Check.due("people", x.count(0), 4);
        Check.due("debts", x.count(1), 3);
        Check.due("changes", x.count(3), changes);
        x.evening(12);
        Check.due("again", x.back(), 1);
        Check.due("evening", x.of(0, 7), 71);
        x.evening(12);
        Check.due("another image", x.image(), 2);
        x.evening(12);
        Check.due("the latest", x.back(), 2);
        Check.due("evening", x.of(0, 7), 72);
    }

    private static void undo() {
        DebtSerenade x = three();
        Check.due("none", x.undo(), DebtSerenade.STATE);
        Check.due("none", x.redo(), DebtSerenade.STATE);
        int[] first = {1, 5, 6, 50, 0, 90, 2, 0};
        for (int what = 0; what < 8; what++) {
            x.mend(0, what, 7);
        }
        Check.due("changes", x.count(3), 8);
        x.mend(0, 7, 7);
        Check.due("the same is none", x.count(3), 8);
        Check.due("no redo", x.redo(), DebtSerenade.STATE);
        for (int what = 7; what >= 0; what--) {
            Check.due("undo", x.undo(), what);
            Check.due("undone", x.of(0, what), first[what]);
        }
        Check.due("none", x.undo(), DebtSerenade.STATE);
        for (int what = 0; what < 8; what++) {
            Check.due("redo", x.redo(), 7 - what);
            Check.due("done again", x.of(0, what), 7);
            Check.due("may be undone", x.count(3), what + 1);
        }
        Check.due("none", x.redo(), DebtSerenade.STATE);
        x.undo();
        x.undo();
        x.mend(0, 0, 7);
        x.mend(0, 0, 77);
        x.person(3);
        x.debt(10, 6);
        x.evening(12);
        Check.due("nothing came behind", x.redo(), 1);
        x.mend(0, 7, 50);
        Check.due("another came behind", x.redo(), DebtSerenade.STATE);
        forty();
    }

    private static void forty() {
        DebtSerenade x = three();
        for (int i = 1; i <= 45; i++) {
            x.mend(0, 3, 100 + i);
        }
        Check.due("40 are kept", x.count(3), 40);
        for (int i = 39; i >= 0; i--) {
            Check.due("undo", x.undo(), i);
            Check.due("purse", x.of(0, 3), 105 + i);
        }
        Check.due("none", x.undo(), DebtSerenade.STATE);
        for (int i = 39; i >= 0; i--) {
            Check.due("redo", x.redo(), i);
            Check.due("purse", x.of(0, 3), 145 - i);
        }
        x.mend(0, 3, 1);
        Check.due("still 40", x.count(3), 40);
        x.undo();
        Check.due("purse", x.of(0, 3), 145);
        unlike();
    }

    /** Of fifty changes of unlike numbers the first ten are forgotten, each with all that belongs to it. */
    private static void unlike() {
        DebtSerenade x = three();
        int[][] states = new int[51][];
        for (int i = 0; i < 50; i++) {
            states[i] = numbers(x);
            x.mend(i % 3, i % 5, 7 + i / 15 % 2);
        }
        states[50] = numbers(x);
        Check.due("40 are kept", x.count(3), 40);
        for (int i = 49; i >= 10; i--) {
            Check.due("undo", x.undo(), i - 10);
            Check.due("as it was ahead of " + i, java.util.Arrays.equals(numbers(x), states[i]) ? 1 : 0, 1);
        }
        Check.due("none", x.undo(), DebtSerenade.STATE);
        for (int i = 11; i <= 50; i++) {
            Check.due("redo", x.redo(), 50 - i);
            Check.due("as it was behind " + i, java.util.Arrays.equals(numbers(x), states[i]) ? 1 : 0, 1);
        }
    }

    private static int[] numbers(DebtSerenade x) {
        int[] all = new int[15];
        for (int i = 0; i < 15; i++) {
            all[i] = x.of(i % 3, i / 3);
        }
        return all;
    }

    private static void undoBesideDeeds() {
        DebtSerenade x = three();
        x.mend(0, 4, 50);
        x.mend(0, 3, 60);
        x.mend(0, 5, 70);
        x.mend(0, 7, 5);
        x.evening(0);
        Check.due("no changes by deeds", x.count(3), 4);
        Check.due("undo", x.undo(), 3);
        Check.due("evening, as it was told", x.of(0, 7), 0);
        Check.due("undo", x.undo(), 2);
        Check.due("sum", x.of(0, 5), 90);
        Check.due("purse stays", x.of(0, 3), 55);
        Check.due("undo", x.undo(), 1);
        Check.due("purse", x.of(0, 3), 50);
        Check.due("undo", x.undo(), 0);
        Check.due("moved", x.of(0, 4), 0);
        Check.due("led stays", x.led(2), 5);
        Check.due("redo", x.redo(), 3);
        Check.due("moved", x.of(0, 4), 50);
    }
}
