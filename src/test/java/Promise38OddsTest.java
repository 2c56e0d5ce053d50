/** Promise 38: odds. */
public final class Promise38OddsTest {
    static final long ALL = 1_000_000_000_000L;

    public static void main(String[] args) {
        numbers();
        inNoDays();
        neverAndAlways();
        theLeastAndTheMostLikely();
        lowestTerms();
        asManyAsTheQuorum();
        saltedOnesAreSafe();
        Edge.asks("odds", x -> x.odds(6, true));
        Due.end();
    }

    /** Cold ones who lose nothing but by THUNDER. */
    static SafeSenate cold(int quorum, int thunder, int... good) {
        int[] airs = new int[good.length];
        StringBuilder text = new StringBuilder("safe quorum " + quorum + " heat 1 thunder " + thunder + " salt 1")
            .append(Edge.hooks(airs));
        for (int s = 0; s < good.length; s++) {
            text.append(Edge.seat(s, "cold", s, good[s], 1));
        }
        return Due.of(text.toString());
    }

    private static void odds(String what, SafeSenate x, int n, long upper, long lower) {
        Edge.granted(what + ", upper", x, x.odds(n, false), upper);
        Edge.granted(what + ", lower", x, x.odds(n, true), lower);
    }

    private static void numbers() {
        Edge.refused("7", Edge::used, x -> x.odds(7, false), 2);
        Edge.wild("in", (x, wild) -> x.odds(wild, true), 2);
    }

    private static void inNoDays() {
        odds("a quorum NOW", cold(1, 50, 1), 0, 1, 1);
        odds("none NOW", cold(2, 50, 1), 0, 0, 1);
    }

    private static void neverAndAlways() {
        for (int n = 1; n <= 6; n++) {
            odds("never a thunder", cold(1, 0, 1), n, 1, 1);
            odds("always one", cold(1, 100, 3 * n), n, 0, 1);
            odds("always one, a day more", cold(1, 100, 3 * n + 1), n, 1, 1);
        }
    }

    private static void theLeastAndTheMostLikely() {
        odds("no thunder in six days", cold(1, 99, 1), 6, 1, ALL);
        odds("six thunders in six days", cold(1, 1, 18), 6, ALL - 1, ALL);
        odds("not by five", cold(1, 1, 16), 6, ALL - 1, ALL);
        odds("by five, too", cold(1, 1, 15), 6, (ALL - 1 - 6 * 99) / 5, ALL / 5);
    }

    private static void lowestTerms() {
        odds("1 day", cold(1, 50, 1), 1, 1, 2);
        odds("6 days", cold(1, 50, 1), 6, 1, 64);
        odds("of ten", cold(1, 10, 1), 1, 9, 10);
        odds("of hundred", cold(1, 1, 1), 1, 99, 100);
        odds("two of three", cold(1, 50, 6), 3, 1, 2);
    }

    private static void asManyAsTheQuorum() {
        // OFF by 1, 2 and 3 thunders of three days
        odds("all three", cold(3, 50, 3, 6, 9), 3, 1, 8);
        odds("two", cold(2, 50, 3, 6, 9), 3, 1, 2);
        odds("one", cold(1, 50, 3, 6, 9), 3, 7, 8);
        odds("four", cold(4, 50, 3, 6, 9), 3, 0, 1);
    }

    private static void saltedOnesAreSafe() {
        SafeSenate x = cold(1, 100, 4);
        odds("not salted", x, 6, 0, 1);
        x.salt(0);
        // salted he loses 3 by the six days 0 .. 5
        odds("salted", x, 6, 1, 1);
    }
}
