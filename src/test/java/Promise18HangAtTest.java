/** Promise 18: hangAt. */
public final class Promise18HangAtTest {
    public static void main(String[] args) {
        noneSuch();
        numbers();
        ofLikeOnesTheFirst();
        theFirstGiveWay();
        hooksLeftOver();
        notAsHungNow();
        Edge.asks("hangAt", x -> x.hangAt(1, 60));
        Due.end();
    }

    private static void noneSuch() {
        Edge.refused("behind the last", Edge::used, x -> x.hangAt(2, 0), 1);
        Edge.refused("1 ahead of 2", Edge::used, x -> x.hangAt(2, 61), 1);
        Edge.refused("behind six", () -> Due.of(Edge.FULL), x -> x.hangAt(6, 0), 1);
        Edge.wild("senator", (x, wild) -> x.hangAt(wild, 0), 1);
    }

    private static void numbers() {
        Edge.refused("61", Edge::used, x -> x.hangAt(0, 61), 2);
        Edge.wild("in", (x, wild) -> x.hangAt(0, wild), 2);
    }

    private static void hung(String what, SafeSenate x, int n, int... hooks) {
        for (int s = 0; s < hooks.length; s++) {
            Edge.granted(what + ", " + s + " in " + n, x, x.hangAt(s, n), hooks[s]);
        }
    }

    private static void ofLikeOnesTheFirst() {
        SafeSenate x = Due.of("safe quorum 1 heat 9 thunder 0 salt 0" + Edge.hooks(9, 8, 7, 6, 5, 4)
            + Edge.seats("fresh", 99, 1, 5, 4, 3, 2, 1, 0));
        hung("all last wherever", x, 1, 0, 1, 2, 3, 4, 5);
        hung("two last, whoever they are", x, 60, 0, 1, 2, 3, 4, 5);
        SafeSenate y = Due.of("safe quorum 1 heat 9 thunder 0 salt 0" + Edge.hooks(0, 0, 0, 0, 0, 9)
            + Edge.seats("fresh", 9, 1, 5, 4, 3, 2, 1, 0));
        hung("nobody lasts", y, 9, 0, 1, 2, 3, 4, 5);
    }

    /** The last one lasts by one hook alone, the others by none. */
    private static void theFirstGiveWay() {
        String few = Edge.seats("fresh", 1, 1, 0, 1, 2, 3, 4) + Edge.seat(5, "fresh", 5, 2, 1);
        String head = "safe quorum 1 heat 9 thunder 0 salt 0";
        hung("the first hook", Due.of(head + Edge.hooks(9, 0, 0, 0, 0, 0) + few), 1, 1, 2, 3, 4, 5, 0);
        hung("the third", Due.of(head + Edge.hooks(0, 0, 9, 0, 0, 0) + few), 1, 0, 1, 3, 4, 5, 2);
        hung("the last", Due.of(head + Edge.hooks(0, 0, 0, 0, 0, 9) + few), 1, 0, 1, 2, 3, 4, 5);
    }

    private static void hooksLeftOver() {
        SafeSenate x = Due.of("safe quorum 1 heat 9 thunder 0 salt 0" + Edge.hooks(0, 0, 0, 0, 0, 9)
            + Edge.seat(0, "fresh", 0, 2, 1));
        hung("one at six", x, 1, 5);
        hung("in 0 days", x, 0, 0);
        hung("when it is too late", x, 2, 0);
    }

    private static void notAsHungNow() {
        SafeSenate x = Due.of("safe quorum 1 heat 9 thunder 0 salt 0" + Edge.hooks(9, 9) + Edge.seats("fresh", 9, 1, 1, 0));
        hung("like ones: by numbers, not as NOW", x, 1, 0, 1);
        Due.is("nobody was moved", x.senator(0, 1), 1);
    }
}
