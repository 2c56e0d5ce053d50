/** Promise 39: goodOdds. */
public final class Promise39GoodOddsTest {
    private static final long ALL = Promise38OddsTest.ALL;

    public static void main(String[] args) {
        noneSuch();
        numbers();
        nowAndOff();
        eachOfThem();
        theLeastAndTheMostLikely();
        threeMoreByEachThunder();
        Edge.asks("goodOdds", x -> x.goodOdds(1, 6, true));
        Due.end();
    }

    private static SafeSenate cold(int thunder, int... good) {
        return Promise38OddsTest.cold(6, thunder, good);
    }

    private static void odds(String what, SafeSenate x, int s, int n, long upper, long lower) {
        Edge.granted(what + ", upper of " + s, x, x.goodOdds(s, n, false), upper);
        Edge.granted(what + ", lower of " + s, x, x.goodOdds(s, n, true), lower);
    }

    private static void noneSuch() {
        Edge.refused("behind the last", Edge::used, x -> x.goodOdds(2, 0, true), 1);
        Edge.refused("1 ahead of 2", Edge::used, x -> x.goodOdds(2, 7, true), 1);
        Edge.wild("senator", (x, wild) -> x.goodOdds(wild, 0, true), 1);
    }

    private static void numbers() {
        Edge.refused("7", Edge::used, x -> x.goodOdds(0, 7, false), 2);
        Edge.wild("in", (x, wild) -> x.goodOdds(0, wild, true), 2);
    }

    private static void nowAndOff() {
        SafeSenate x = cold(100, 3, 4);
        odds("NOW", x, 0, 0, 1, 1);
        x.day();
        odds("OFF", x, 0, 0, 0, 1);
        odds("GOOD", x, 1, 0, 1, 1);
    }

    private static void eachOfThem() {
        SafeSenate x = cold(50, 3, 6, 9, 12, 15, 18);
        long[] upper = {1, 7, 11, 21, 57, 63};
        long[] lower = {64, 64, 32, 32, 64, 64};
        for (int s = 0; s < 6; s++) {
            odds("in 6 days", x, s, 6, upper[s], lower[s]);
        }
    }

    private static void theLeastAndTheMostLikely() {
        odds("no thunder", cold(99, 1), 0, 6, 1, ALL);
        odds("six thunders", cold(1, 18), 0, 6, ALL - 1, ALL);
        odds("never", cold(0, 1), 0, 6, 1, 1);
        odds("always", cold(100, 18), 0, 6, 0, 1);
        odds("always, and a day more", cold(100, 19), 0, 6, 1, 1);
    }

    /** With what he loses without it: 2 by a DAY here. */
    private static void threeMoreByEachThunder() {
        String text = "safe quorum 1 heat 2 thunder 25 salt 0" + Edge.hooks(0) + Edge.seat(0, "fresh", 0, 0, 1);
        long[] upper = {0, 3, 3, 3, 1};
        long[] lower = {1, 4, 4, 4, 1};
        for (int i = 0; i < upper.length; i++) {
            odds("good for " + (2 + i), Due.of(text.replace("good 0", "good " + (2 + i))), 0, 1, upper[i], lower[i]);
        }
    }
}
