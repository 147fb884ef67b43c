import java.util.Random;

/** Any arguments in any state: no call throws, what only tells and what is refused changes nothing. */
public final class HardCallsTest {
    /** Those that may change something, if they are not refused. */
    static final String CHANGING = " person debt debts mend feed law evening lend letOff image back undo redo"
        + " body act keep row put shift ";
    private static final Random RANDOM = new Random(99);

    public static void main(String[] args) {
        for (int run = 0; run < 250; run++) {
            DebtSerenade x = new DebtSerenade();
            int calls = 100 + RANDOM.nextInt(400);
            for (int i = 0; i < calls; i++) {
                call(x, run, i);
            }
        }
        Check.finish();
    }

    private static void call(DebtSerenade x, int run, int i) {
        String name = Calls.NAMES[RANDOM.nextInt(Calls.NAMES.length)];
        int[] a = Calls.arguments(RANDOM, name);
        String text = "run " + run + ", call " + i + ": " + name + java.util.Arrays.toString(a);
        long before = digest(x);
        long got;
        try {
            got = Calls.answer(x, name, a);
        } catch (RuntimeException e) {
            System.out.println(text + " threw " + e);
            Check.due(text, 1, 0);
            return;
        }
        boolean refused = got < 0 && got >= -5 || got <= -11 && got >= -14 || got == DebtSerenade.VOID;
        if (!CHANGING.contains(" " + name + " ") || refused && !name.equals("act")) {
            Check.due(text + " changed something", digest(x), before);
        }
    }

    /** All that can be asked without changing anything, in one number. */
    private static long digest(DebtSerenade x) {
        long sum = 17;
        for (int what = 0; what < 10; what++) {
            for (int number = 0; number < 12; number++) {
                sum = sum * 31 + x.of(number, what);
            }
        }
        for (int i = 0; i < 24; i++) {
            sum = sum * 31 + x.trace(i);
            sum = sum * 31 + x.count(i) + x.led(i);
            sum = sum * 31 + x.moves(i);
        }
        for (int shelf = 0; shelf < 6; shelf++) {
            for (int i = 0; i < 60; i++) {
                sum = sum * 31 + x.element(shelf, i);
            }
            sum = sum * 31 + x.taken(shelf, 0) + x.shift(shelf, 0, shelf, 0, 0);
        }
        return sum;
    }
}
