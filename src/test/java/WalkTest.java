import java.util.Arrays;
import java.util.Random;

/** Promises 1 to 43 in any order, 512 calls to an object: each answer against Oracle's. */
public final class WalkTest {
    private static final String[] OFTEN = {"mend", "undo", "redo", "evening", "lend", "letOff", "image", "back", "put",
        "shift", "row", "person", "debt", "debts"};
    private static final Random RANDOM = new Random(43);

    public static void main(String[] args) {
        int runs = args.length > 0 ? Integer.parseInt(args[0]) : 300;
        for (int run = 0; run < runs; run++) {
            walk(run);
        }
        Check.finish();
    }

    private static void walk(int run) {
        DebtSerenade x = new DebtSerenade();
        Oracle oracle = new Oracle();
        int calls = 0;
        int people = RANDOM.nextInt(9);
        for (int i = 0; i < people; i++) {
            same(x, oracle, run, calls++, "person", RANDOM.nextInt(16), 0, 0, 0, 0);
        }
        String text = RANDOM.nextBoolean() ? Model.text(RANDOM) : "";
        for (int i = 0; i < Math.min(60, text.length()); i++) {
            same(x, oracle, run, calls++, "feed", text.charAt(i), 0, 0, 0, 0);
        }
        while (calls < 512) {
            String name = draw();
            same(x, oracle, run, calls++, name, arguments(name));
        }
    }

    private static String draw() {
        String[] names = RANDOM.nextInt(3) == 0 ? OFTEN : Calls.NAMES;
        String name = names[RANDOM.nextInt(names.length)];
        return name.equals("law") && RANDOM.nextInt(3) > 0 ? "feed" : name;
    }

    private static int[] arguments(String name) {
        int[] a = Calls.arguments(RANDOM, name);
        if (RANDOM.nextInt(3) == 0) {
            return a;
        }
        switch (name) {
            case "debt" -> a[1] = RANDOM.nextInt(60);
            case "mend" -> {
                a[0] = RANDOM.nextInt(5);
                a[1] = RANDOM.nextInt(8);
                a[2] = RANDOM.nextInt(16);
                if (a[1] > 5) {
                    a[0] = 0;
                } else if (a[1] == 4) {
                    a[2] = RANDOM.nextInt(101);
                }
            }
            case "put" -> {
                a[1] = RANDOM.nextInt(8);
                a[2] = RANDOM.nextInt(5) == 0 ? 12 : RANDOM.nextInt(6);
                a[3] = 0;
            }
            case "row" -> a[2] = RANDOM.nextInt(10);
            case "shift" -> {
                for (int i = 1; i < 5; i++) {
                    a[i] = RANDOM.nextInt(6);
                }
            }
            case "lend" -> a[1] = 1 + RANDOM.nextInt(80);
            default -> {
            }
        }
        return a;
    }

    private static void same(DebtSerenade x, Oracle oracle, int run, int call, String name, int... a) {
        long want = oracle.answer(name, a);
        long got = Calls.answer(x, name, a);
        if (want != Oracle.UNKNOWN) {
            Check.due("run " + run + ", call " + call + ": " + name + Arrays.toString(a), got, want);
        }
    }
}
