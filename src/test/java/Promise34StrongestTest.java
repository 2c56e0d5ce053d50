/** Promise 34: strongest. */
public final class Promise34StrongestTest {
    public static void main(String[] args) {
        nobodyIsGood();
        ofLikeOnesTheFirst();
        theLast();
        amongTheGood();
        Edge.asks("strongest", x -> x.strongest());
        Due.end();
    }

    private static void strongest(String what, SafeSenate x, int s) {
        Edge.granted(what, x, x.strongest(), s);
    }

    private static SafeSenate later(int days, int... votes) {
        SafeSenate x = Promise33PowerTest.votes(votes);
        Edge.days(x, days);
        return x;
    }

    private static void nobodyIsGood() {
        strongest("one who is OFF", later(1, 9), -2);
        strongest("six who are", later(6, 9, 9, 9, 9, 9, 9), -2);
        strongest("the last is GOOD still", later(5, 9, 9, 9, 9, 9, 9), 5);
    }

    private static void ofLikeOnesTheFirst() {
        strongest("all alike", later(0, 2, 2, 2), 0);
        strongest("no votes", later(0, 0, 0), 0);
        strongest("no votes, the first is OFF", later(1, 0, 0, 0), 1);
        strongest("unlike votes, like power", later(0, 3, 4, 5), 0);
    }

    private static void theLast() {
        strongest("the sixth", later(0, 1, 1, 1, 1, 1, 9), 5);
        strongest("by one vote", later(0, 1, 2), 1);
    }

    private static void amongTheGood() {
        strongest("the first has most", later(0, 9, 1, 2), 0);
        strongest("but is OFF", later(1, 9, 1, 2), 2);
    }
}
