/** Promise 20: longestAt. */
public final class Promise20LongestAtTest {
    private static final String HEAD = "safe quorum 1 heat 9 thunder 0 salt 0";

    public static void main(String[] args) {
        noneSuch();
        ofLikeOnesTheFirst();
        theFirstGiveWay();
        beyondNinetyNineIsLike();
        Edge.asks("longestAt", x -> x.longestAt(1));
        Due.end();
    }

    private static void noneSuch() {
        Edge.refused("behind the last", Edge::used, x -> x.longestAt(2), 1);
        Edge.refused("behind six", () -> Due.of(Edge.FULL), x -> x.longestAt(6), 1);
        Edge.wild("senator", (x, wild) -> x.longestAt(wild), 1);
    }

    private static void hung(String what, SafeSenate x, int... hooks) {
        for (int s = 0; s < hooks.length; s++) {
            Edge.granted(what + ", " + s, x, x.longestAt(s), hooks[s]);
        }
    }

    private static void ofLikeOnesTheFirst() {
        hung("all alike", Due.of(HEAD + Edge.hooks(9, 9, 9, 9, 9, 9) + Edge.seats("fresh", 9, 1, 5, 4, 3, 2, 1, 0)),
            0, 1, 2, 3, 4, 5);
        hung("never a quorum", Due.of(HEAD.replace("quorum 1", "quorum 3") + Edge.hooks(0, 0, 9) + Edge.seats("fresh", 9, 1, 2, 1)),
            0, 1);
        // the first one lasts longest, by either of the hooks with air
        hung("the first hook of two", Due.of(HEAD + Edge.hooks(0, 9, 0, 9) + Edge.seat(0, "fresh", 0, 9, 1)), 1);
    }

    private static void theFirstGiveWay() {
        String few = Edge.seats("fresh", 1, 1, 0, 1, 2, 3, 4) + Edge.seat(5, "fresh", 5, 2, 1);
        hung("the first hook", Due.of(HEAD + Edge.hooks(9, 0, 0, 0, 0, 0) + few), 1, 2, 3, 4, 5, 0);
        hung("the third", Due.of(HEAD + Edge.hooks(0, 0, 9, 0, 0, 0) + few), 0, 1, 3, 4, 5, 2);
        hung("the last", Due.of(HEAD + Edge.hooks(0, 0, 0, 0, 0, 9) + few), 0, 1, 2, 3, 4, 5);
    }

    private static void beyondNinetyNineIsLike() {
        // a cold one lasts 99 days by a loss of 1, and for ever by none: both are 99
        hung("99 and for ever", Due.of(HEAD + Edge.hooks(7, 8) + Edge.seat(0, "cold", 1, 99, 1)), 0);
        hung("98 and for ever", Due.of(HEAD + Edge.hooks(7, 8) + Edge.seat(0, "cold", 0, 98, 1)), 1);
    }
}
