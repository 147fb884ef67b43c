import java.util.Arrays;
import java.util.function.Supplier;

/**
 * "What is answered so changes nothing": a lane that was refused a call answers all that can be asked as its twin
 * does, which was made in the same way and not asked. No lane is asked more than 512 times, so there are several.
 */
final class Twins {
    /** A call with its arguments. */
    interface Call {
        long on(DebtSerenade x);
    }

    private static final int LOOKS = 6;
    private final String name;
    private final Supplier<DebtSerenade> making;
    private final long[][] twin = new long[LOOKS][];

    Twins(String name, Supplier<DebtSerenade> making) {
        this.name = name;
        this.making = making;
        for (int look = 0; look < LOOKS; look++) {
            twin[look] = look(making.get(), look);
        }
    }

    /** The call gives the answer that is due, and nothing is changed by it. */
    void refuse(String call, long want, Call asked) {
        for (int look = 0; look < LOOKS; look++) {
            DebtSerenade x = making.get();
            Check.due(call + " of " + name, asked.on(x), want);
            int unlike = Arrays.mismatch(look(x, look), twin[look]);
            Check.due("unlike in look " + look + " behind " + call + " of " + name, unlike, -1);
        }
    }

    DebtSerenade make() {
        return making.get();
    }

    private static long[] look(DebtSerenade x, int look) {
        Seen seen = new Seen();
        switch (look) {
            case 0 -> seen.told(x);
            case 1 -> seen.shelves(x, 0);
            case 2 -> seen.shelves(x, 3);
            case 3 -> seen.changes(x);
            case 4 -> seen.imageAndTape(x);
            default -> seen.room(x);
        }
        return Arrays.copyOf(seen.answers, seen.many);
    }

    private static final class Seen {
        final long[] answers = new long[512];
        int many = 0;

        void add(long answer) {
            answers[many] = answer;
            many++;
        }

        void numbers(DebtSerenade x) {
            for (int what = 0; what < 10; what++) {
                int all = what < 5 ? 8 : what == 6 || what == 7 ? 1 : 12;
                for (int number = 0; number < all; number++) {
                    add(x.of(number, what));
                }
            }
            for (int what = 0; what < 5; what++) {
                add(x.led(what));
            }
        }

        void told(DebtSerenade x) {
            numbers(x);
            for (int what = 0; what < 6; what++) {
                add(x.count(what));
            }
            for (int i = 0; i < 15; i++) {
                add(x.trace(i));
            }
            for (int debt = 0; debt < 12; debt++) {
                add(x.moves(debt));
            }
        }

        void shelves(DebtSerenade x, int from) {
            for (int shelf = from; shelf < from + 3; shelf++) {
                for (int i = -1; i <= 60; i++) {
                    add(x.element(shelf, i));
                }
                for (int kind = 0; kind < 8; kind++) {
                    add(x.taken(shelf, kind));
                }
            }
        }

        void changes(DebtSerenade x) {
            for (int i = 0; i < 41; i++) {
                add(x.undo());
            }
            numbers(x);
            for (int i = 0; i < 41; i++) {
                add(x.redo());
            }
            numbers(x);
        }

        void imageAndTape(DebtSerenade x) {
            add(x.back());
            numbers(x);
            add(x.law());
            add(x.count(2));
            for (int debt = 0; debt < 12; debt++) {
                add(x.moves(debt));
            }
        }

        /** Whether more still comes, and by which number. */
        void room(DebtSerenade x) {
            add(x.redo());
            add(x.person(3));
            add(x.debt(1, 5));
            add(x.feed('1'));
            add(x.body(2));
            add(x.evening(0));
            numbers(x);
        }
    }
}
