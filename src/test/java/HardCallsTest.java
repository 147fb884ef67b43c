import java.util.Random;

/** Any arguments in any state: no call throws, what only tells and what is refused changes nothing. */
public final class HardCallsTest {
    private static final String[] NAMES = {"person", "debt", "debts", "mend", "of", "feed", "law", "moves", "later",
        "paid", "paidOff", "above", "richest", "round", "settle", "best", "help", "lane", "crowd", "judge", "hearts",
        "share", "byTurns", "drawn", "evening", "lend", "letOff", "led", "image", "back", "undo", "redo", "body", "act",
        "trace", "keep", "row", "put", "element", "shift", "taken", "count"};
    /** Those that may change something, if they are not refused. */
    private static final String CHANGING = " person debt debts mend feed law evening lend letOff image back undo redo"
        + " body act keep row put shift ";
    private static final Random RANDOM = new Random(99);

    public static void main(String[] args) {
        for (int run = 0; run < 250; run++) {
            DebtSerenade x = new DebtSerenade();
            int calls = 100 + RANDOM.nextInt(400);
            for (int i = 0; i < calls; i++) {
                call(x, run, i);
            }
        }
        Check.finish();
    }

    private static void call(DebtSerenade x, int run, int i) {
        String name = NAMES[RANDOM.nextInt(NAMES.length)];
        boolean wild = RANDOM.nextInt(4) == 0;
        int[] a = new int[5];
        for (int k = 0; k < 5; k++) {
            a[k] = wild ? wild() : tame();
        }
        if (!wild) {
            shape(name, a);
        }
        String text = "run " + run + ", call " + i + ": " + name + java.util.Arrays.toString(a);
        long before = digest(x);
        long got;
        try {
            got = answer(x, name, a);
        } catch (RuntimeException e) {
            System.out.println(text + " threw " + e);
            Check.due(text, 1, 0);
            return;
        }
        boolean refused = got < 0 && got >= -5 || got <= -11 && got >= -14 || got == DebtSerenade.VOID;
        if (!CHANGING.contains(" " + name + " ") || refused && !name.equals("act")) {
            Check.due(text + " changed something", digest(x), before);
        }
    }

    private static int tame() {
        return switch (RANDOM.nextInt(6)) {
            case 0 -> 0;
            case 1 -> RANDOM.nextInt(3) - 1;
            case 2 -> RANDOM.nextInt(8);
            case 3 -> RANDOM.nextInt(14) - 1;
            case 4 -> RANDOM.nextInt(100);
            default -> RANDOM.nextInt(1002) - 1;
        };
    }

    private static int wild() {
        int[] far = {Integer.MIN_VALUE, Integer.MAX_VALUE, -1, 60, 61, 120, 1 << 30, -1 << 30, 255, 256};
        return RANDOM.nextBoolean() ? far[RANDOM.nextInt(far.length)] : RANDOM.nextInt();
    }

    /** Makes some calls likely to be taken, so that the states are rich. */
    private static void shape(String name, int[] a) {
        switch (name) {
            case "person" -> a[0] = RANDOM.nextInt(17);
            case "debt" -> a[0] = 10 * RANDOM.nextInt(5) + RANDOM.nextInt(5);
            case "mend" -> a[1] = RANDOM.nextInt(9);
            case "feed" -> a[0] = "vhmsne19|&<=>+-*/%!()?;".charAt(RANDOM.nextInt(23));
            case "row" -> {
                a[0] = RANDOM.nextInt(6);
                a[1] = RANDOM.nextInt(3) == 0 ? RANDOM.nextInt(5) : RANDOM.nextInt(2);
            }
            case "put", "shift", "keep", "debts", "later", "paid", "paidOff" -> a[0] = RANDOM.nextInt(6);
            case "judge", "hearts" -> a[0] = 10 * RANDOM.nextInt(6) + RANDOM.nextInt(6);
            case "drawn" -> {
                a[1] = 100 * RANDOM.nextInt(32) + RANDOM.nextInt(42);
                a[2] = RANDOM.nextInt(9) - 1;
            }
            case "best" -> a[0] = RANDOM.nextInt(4);
            default -> a[0] = RANDOM.nextInt(2) == 0 ? RANDOM.nextInt(6) : a[0];
        }
    }

    private static long answer(DebtSerenade x, String name, int[] a) {
        return switch (name) {
            case "person" -> x.person(a[0]);
            case "debt" -> x.debt(a[0], a[1]);
            case "debts" -> x.debts(a[0], a[1], a[2]);
            case "mend" -> x.mend(a[0], a[1], a[2]);
            case "of" -> x.of(a[0], a[1]);
            case "feed" -> x.feed(a[0]);
            case "law" -> x.law();
            case "moves" -> x.moves(a[0]);
            case "later" -> x.later(a[0], a[1], a[2], a[3]);
            case "paid" -> x.paid(a[0], a[1], a[2]);
            case "paidOff" -> x.paidOff(a[0], a[1]);
            case "above" -> x.above(a[0]);
            case "richest" -> x.richest();
            case "round" -> x.round(a[0]);
            case "settle" -> x.settle();
            case "best" -> x.best(a[0], a[1]);
            case "help" -> x.help(a[0]);
            case "lane" -> x.lane(a[0]);
            case "crowd" -> x.crowd(a[0]);
            case "judge" -> x.judge(a[0]);
            case "hearts" -> x.hearts(a[0], a[1], a[2]);
            default -> answerToo(x, name, a);
        };
    }

    private static long answerToo(DebtSerenade x, String name, int[] a) {
        return switch (name) {
            case "share" -> x.share(a[0], a[1], a[2]);
            case "byTurns" -> x.byTurns(a[0], a[1], a[2]);
            case "drawn" -> x.drawn(a[0], a[1], a[2]);
            case "evening" -> x.evening(a[0]);
            case "lend" -> x.lend(a[0], a[1]);
            case "letOff" -> x.letOff(a[0]);
            case "led" -> x.led(a[0]);
            case "image" -> x.image();
            case "back" -> x.back();
            case "undo" -> x.undo();
            case "redo" -> x.redo();
            case "body" -> x.body(a[0]);
            case "act" -> x.act(a[0], a[1], a[2]);
            case "trace" -> x.trace(a[0]);
            case "keep" -> x.keep(a[0], a[1]);
            case "row" -> x.row(a[0], a[1], a[2]);
            case "put" -> x.put(a[0], a[1], a[2] * 65599L);
            case "element" -> x.element(a[0], a[1]);
            case "shift" -> x.shift(a[0], a[1], a[2], a[3], a[4]);
            case "taken" -> x.taken(a[0], a[1]);
            default -> x.count(a[0]);
        };
    }

    /** All that can be asked without changing anything, in one number. */
    private static long digest(DebtSerenade x) {
        long sum = 17;
        for (int what = 0; what < 10; what++) {
            for (int number = 0; number < 12; number++) {
                sum = sum * 31 + x.of(number, what);
            }
        }
        for (int i = 0; i < 24; i++) {
            sum = sum * 31 + x.trace(i);
            sum = sum * 31 + x.count(i) + x.led(i);
            sum = sum * 31 + x.moves(i);
        }
        for (int shelf = 0; shelf < 6; shelf++) {
            for (int i = 0; i < 60; i++) {
                sum = sum * 31 + x.element(shelf, i);
            }
            sum = sum * 31 + x.taken(shelf, 0) + x.shift(shelf, 0, shelf, 0, 0);
        }
        return sum;
    }
}
