/** A lane of three people: its debts, its law, songs in thought and in deed. */
public final class Serenade {
    public static void main(String[] args) {
        DebtSerenade lane = new DebtSerenade();
        int ann = lane.person(3);
        int ben = lane.person(8);
        int cleo = lane.person(9);
        int first = lane.debt(10 * ann + ben, 30);
        int second = lane.debt(10 * ben + cleo, 20);
        lane.mend(ann, 4, 18);
        say("ann would be moved by", lane.moves(first));

        for (char sign : "m>40?5;v+h/2".toCharArray()) {
            lane.feed(sign);
        }
        say("the tape becomes the law", lane.law());
        say("ann would be moved by", lane.moves(first));

        lane.row(0, 0, 4);
        lane.put(0, 0, first);
        lane.put(0, 1, 12);
        lane.put(0, 2, first);
        lane.put(0, 3, second);
        say("paid by the songs on shelf 0", lane.paid(0, 40, 0));
        say("ann would still owe", lane.later(0, 40, first, 0));

        say("ben sings, ann pays", lane.evening(first));
        say("ann still owes", lane.of(first, 5));
        say("ann is moved by", lane.of(ann, 4));
        say("cleo is above by", lane.above(cleo));
        say("ben is above by", lane.above(ben));
        say("payments that settle all", lane.settle());

        say("a house that is not there", lane.person(16));
        say("no debts that go round", lane.round(0));
        say("nothing on shelf 5", lane.paid(5, 40, 0));
        lane.feed('v');
        lane.feed('+');
        say("a text that ends too early", lane.law());
    }

    private static void say(String what, int answer) {
        System.out.println(what + ": " + answer);
    }
}
