import java.util.Random;

/** Every call of the face by its name, with arguments by draws. */
final class Calls {
    static final String[] NAMES = {"person", "debt", "debts", "mend", "of", "feed", "law", "moves", "later",
        "paid", "paidOff", "above", "richest", "round", "settle", "best", "help", "lane", "crowd", "judge", "hearts",
        "share", "byTurns", "drawn", "evening", "lend", "letOff", "led", "image", "back", "undo", "redo", "body", "act",
        "trace", "keep", "row", "put", "element", "shift", "taken", "count"};

    private Calls() {
    }

    static int[] arguments(Random random, String name) {
        boolean wild = random.nextInt(4) == 0;
        int[] a = new int[5];
        for (int k = 0; k < 5; k++) {
            a[k] = wild ? wild(random) : tame(random);
        }
        if (!wild) {
            shape(random, name, a);
        }
        return a;
    }

    private static int tame(Random random) {
        return switch (random.nextInt(6)) {
            case 0 -> 0;
            case 1 -> random.nextInt(3) - 1;
            case 2 -> random.nextInt(8);
            case 3 -> random.nextInt(14) - 1;
            case 4 -> random.nextInt(100);
            default -> random.nextInt(1002) - 1;
        };
    }

    private static int wild(Random random) {
        int[] far = {Integer.MIN_VALUE, Integer.MAX_VALUE, -1, 60, 61, 120, 1 << 30, -1 << 30, 255, 256};
        return random.nextBoolean() ? far[random.nextInt(far.length)] : random.nextInt();
    }

    /** Makes some calls likely to be taken, so that the states are rich. */
    private static void shape(Random random, String name, int[] a) {
        switch (name) {
            case "person" -> a[0] = random.nextInt(17);
            case "debt" -> a[0] = 10 * random.nextInt(5) + random.nextInt(5);
            case "mend" -> a[1] = random.nextInt(9);
            case "feed" -> a[0] = "vhmsne19|&<=>+-*/%!()?;".charAt(random.nextInt(23));
            case "row" -> {
                a[0] = random.nextInt(6);
                a[1] = random.nextInt(3) == 0 ? random.nextInt(5) : random.nextInt(2);
            }
            case "put", "shift", "keep", "debts", "later", "paid", "paidOff" -> a[0] = random.nextInt(6);
            case "judge", "hearts" -> a[0] = 10 * random.nextInt(6) + random.nextInt(6);
            case "drawn" -> {
                a[1] = 100 * random.nextInt(32) + random.nextInt(42);
                a[2] = random.nextInt(9) - 1;
            }
            case "best" -> a[0] = random.nextInt(4);
            default -> a[0] = random.nextInt(2) == 0 ? random.nextInt(6) : a[0];
        }
    }

    /** What put() puts: a number of the arguments, or one far beyond an int. */
    static long value(int[] a) {
        return a[3] % 2 == 0 ? a[2] : a[2] * 65599L * 65599L;
    }

    static long answer(DebtSerenade x, String name, int[] a) {
        return switch (name) {
            case "person" -> x.person(a[0]);
            case "debt" -> x.debt(a[0], a[1]);
            case "debts" -> x.debts(a[0], a[1], a[2]);
            case "mend" -> x.mend(a[0], a[1], a[2]);
            case "of" -> x.of(a[0], a[1]);
            case "feed" -> x.feed(a[0]);
            case "law" -> x.law();
            case "moves" -> x.moves(a[0]);
            case "later" -> x.later(a[0], a[1], a[2], a[3]);
            case "paid" -> x.paid(a[0], a[1], a[2]);
            case "paidOff" -> x.paidOff(a[0], a[1]);
            case "above" -> x.above(a[0]);
            case "richest" -> x.richest();
            case "round" -> x.round(a[0]);
            case "settle" -> x.settle();
            case "best" -> x.best(a[0], a[1]);
            case "help" -> x.help(a[0]);
            case "lane" -> x.lane(a[0]);
            case "crowd" -> x.crowd(a[0]);
            case "judge" -> x.judge(a[0]);
            case "hearts" -> x.hearts(a[0], a[1], a[2]);
            default -> answerToo(x, name, a);
        };
    }

    private static long answerToo(DebtSerenade x, String name, int[] a) {
        return switch (name) {
            case "share" -> x.share(a[0], a[1], a[2]);
            case "byTurns" -> x.byTurns(a[0], a[1], a[2]);
            case "drawn" -> x.drawn(a[0], a[1], a[2]);
            case "evening" -> x.evening(a[0]);
            case "lend" -> x.lend(a[0], a[1]);
            case "letOff" -> x.letOff(a[0]);
            case "led" -> x.led(a[0]);
            case "image" -> x.image();
            case "back" -> x.back();
            case "undo" -> x.undo();
            case "redo" -> x.redo();
            case "body" -> x.body(a[0]);
            case "act" -> x.act(a[0], a[1], a[2]);
            case "trace" -> x.trace(a[0]);
            case "keep" -> x.keep(a[0], a[1]);
            case "row" -> x.row(a[0], a[1], a[2]);
            case "put" -> x.put(a[0], a[1], value(a));
            case "element" -> x.element(a[0], a[1]);
            case "shift" -> x.shift(a[0], a[1], a[2], a[3], a[4]);
            case "taken" -> x.taken(a[0], a[1]);
            default -> x.count(a[0]);
        };
    }
}
