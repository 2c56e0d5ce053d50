/** Promise 40: mean. */
public final class Promise40MeanTest {
    private static final long ALL = Promise38OddsTest.ALL;

    public static void main(String[] args) {
        numbers();
        inNoDays();
        noneAndAll();
        lowestTerms();
        theLeastAndTheMost();
        Edge.asks("mean", x -> x.mean(6, true));
        Due.end();
    }

    private static void mean(String what, SafeSenate x, int n, long upper, long lower) {
        Edge.granted(what + ", upper", x, x.mean(n, false), upper);
        Edge.granted(what + ", lower", x, x.mean(n, true), lower);
    }

    private static SafeSenate cold(int thunder, int... good) {
        return Promise38OddsTest.cold(6, thunder, good);
    }

    private static void numbers() {
        Edge.refused("7", Edge::used, x -> x.mean(7, false), 2);
        Edge.wild("in", (x, wild) -> x.mean(wild, true), 2);
    }

    private static void inNoDays() {
        SafeSenate x = cold(100, 1, 1, 1, 1, 1, 1);
        mean("six NOW", x, 0, 6, 1);
        x.day();
        mean("nobody NOW", x, 0, 0, 1);
    }

    private static void noneAndAll() {
        mean("never a thunder", cold(0, 1, 1, 1, 1, 1, 1), 6, 6, 1);
        mean("always one", cold(100, 3, 3, 3, 3, 3, 3), 1, 0, 1);
        mean("one is left", cold(100, 3, 3, 3, 3, 3, 4), 1, 1, 1);
    }

    private static void lowestTerms() {
        mean("6 by 64", cold(50, 1, 1, 1, 1, 1, 1), 6, 3, 32);
        mean("half of two", cold(50, 1, 1), 1, 1, 1);
        // 1 - 1/8, 1 - 4/8, 1 - 7/8 in three days
        mean("three unlike ones", cold(50, 9, 6, 3), 3, 3, 2);
        mean("more than one", cold(10, 1, 1), 1, 9, 5);
    }

    private static void theLeastAndTheMost() {
        mean("one, no thunder of six", cold(99, 1), 6, 1, ALL);
        mean("six likewise", cold(99, 1, 1, 1, 1, 1, 1), 6, 3, ALL / 2);
        mean("one OFF by six of six", cold(1, 18), 6, ALL - 1, ALL);
        mean("six likewise", cold(1, 18, 18, 18, 18, 18, 18), 6, 3 * (ALL - 1), ALL / 2);
    }
}
