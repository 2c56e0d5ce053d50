/** Promise 21: bestSwap. */
public final class Promise21BestSwapTest {
    private static final String HEAD = "safe quorum 1 heat 9 thunder 0 salt 0";

    public static void main(String[] args) {
        byNoneMore();
        nobodyToChangeWith();
        theFirstTwoAndTheLast();
        byOneDay();
        mostDays();
        ofLikeOnesTheFirst();
        notAboveNinetyNine();
        oneChangeAtATime();
        fromNowOn();
        Edge.asks("bestSwap", x -> x.bestSwap());
        Due.end();
    }

    private static void best(String what, String text, int two) {
        SafeSenate x = Due.of(text);
        Edge.granted(what, x, x.bestSwap(), two);
    }

    private static void byNoneMore() {
        best("all alike", HEAD + Edge.hooks(0, 0) + Edge.seats("fresh", 9, 1, 0, 1), -2);
        best("worse", pair(9, 0, "fresh", 9), -2);
    }

    private static void nobodyToChangeWith() {
        best("one, and a better hook that is empty", HEAD + Edge.hooks(0, 9) + Edge.seat(0, "fresh", 0, 9, 1), -2);
    }

    /** One hook is better than the others, and one senator has days to gain by it. */
    private static void theFirstTwoAndTheLast() {
        best("the first two", HEAD + Edge.hooks(9, 0, 0) + Edge.seat(0, "fresh", 0, 1, 1) + Edge.seat(1, "fresh", 1, 9, 1)
            + Edge.seat(2, "fresh", 2, 1, 1), 1);
        String six = HEAD + Edge.hooks(0, 0, 0, 0, 0, 9) + Edge.seats("fresh", 1, 1, 0, 1, 2, 3);
        best("the last two", six + Edge.seat(4, "fresh", 4, 9, 1) + Edge.seat(5, "fresh", 5, 1, 1), 45);
        best("the first and the last", (six + Edge.seat(4, "fresh", 4, 1, 1) + Edge.seat(5, "fresh", 5, 1, 1))
            .replace("at ha good 1", "at ha good 9"), 5);
    }

    /** One whose days count, and one who is OFF tomorrow wherever he hangs. */
    private static String pair(int air, int otherAir, String kind, int good) {
        return HEAD + Edge.hooks(air, otherAir) + Edge.seat(0, kind, 0, good, 1) + Edge.seat(1, "fresh", 1, 1, 1);
    }

    private static void byOneDay() {
        best("5 at 3 a day, at 2 a day", pair(6, 7, "fresh", 5), 1);
        best("4 likewise: no day more", pair(6, 7, "fresh", 4), -2);
    }

    private static void mostDays() {
        best("2 days by the first two, 9 by the others", HEAD + Edge.hooks(0, 4, 9) + Edge.seat(0, "fresh", 0, 9, 1)
            + Edge.seat(1, "fresh", 1, 1, 1) + Edge.seat(2, "fresh", 2, 1, 1), 2);
    }

    private static void ofLikeOnesTheFirst() {
        best("two hooks alike", HEAD + Edge.hooks(9, 9, 0) + Edge.seat(0, "fresh", 0, 1, 1) + Edge.seat(1, "fresh", 1, 1, 1)
            + Edge.seat(2, "fresh", 2, 9, 1), 2);
    }

    private static void notAboveNinetyNine() {
        // a cold one at a loss of 1 lasts as many days as he has, and for ever where he loses nothing
        best("99 is most", pair(7, 8, "cold", 99), -2);
        best("98 is not", pair(7, 8, "cold", 98), 1);
    }

    /** Two must last: each has a good day by the one good hook, but only one of them at a time. */
    private static void oneChangeAtATime() {
        best("none of three", HEAD.replace("quorum 1", "quorum 2") + Edge.hooks(9, 0, 0) + Edge.seat(0, "fresh", 0, 5, 1)
            + Edge.seat(1, "fresh", 1, 9, 1) + Edge.seat(2, "fresh", 2, 9, 1), -2);
    }

    private static void fromNowOn() {
        SafeSenate x = Due.of(pair(0, 9, "fresh", 18));
        Edge.granted("ahead", x, x.bestSwap(), 1);
        x.day();
        Edge.granted("with one who is OFF", x, x.bestSwap(), 1);
        x.day();
        Edge.granted("when both are", x, x.bestSwap(), -2);
    }
}
