/** Promise 12: offIn. */
public final class Promise12OffInTest {
    public static void main(String[] args) {
        noneSuch();
        now();
        sixtyAtMost();
        saltedSixtyAtMost();
        never();
        first();
        Edge.asks("offIn", x -> x.offIn(1));
        Due.end();
    }

    private static void noneSuch() {
        Edge.refused("behind the last", Edge::used, x -> x.offIn(2), 1);
        Edge.wild("senator", (x, wild) -> x.offIn(wild), 1);
    }

    private static void now() {
        SafeSenate x = Edge.one("fresh", 2, 1);
        Edge.granted("in 2", x, x.offIn(0), 2);
        x.day();
        Edge.granted("in 1", x, x.offIn(0), 1);
        x.day();
        Edge.granted("OFF NOW", x, x.offIn(0), 0);
        x.day();
        Edge.granted("OFF longer", x, x.offIn(0), 0);
    }

    private static void sixtyAtMost() {
        int[] good = {59, 60, 61, 99};
        int[] days = {59, 60, -2, -2};
        for (int i = 0; i < good.length; i++) {
            SafeSenate x = Edge.one("fresh", good[i], 1);
            Edge.granted("good for " + good[i], x, x.offIn(0), days[i]);
        }
    }

    /** From an even day on his n-th day is lost by the (2n - 1)-th DAY, from an odd one by the 2n-th. */
    private static void saltedSixtyAtMost() {
        int[] good = {30, 31};
        int[] even = {59, -2};
        int[] odd = {60, -2};
        for (int i = 0; i < good.length; i++) {
            SafeSenate x = Edge.one("salted", good[i], 1);
            Edge.granted("salted " + good[i], x, x.offIn(0), even[i]);
            SafeSenate y = Edge.one("salted", good[i] + 1, 1);
            y.day();
            Edge.granted("salted " + good[i] + " on day 1", y, y.offIn(0), odd[i]);
        }
    }

    private static void never() {
        SafeSenate x = Edge.one("cold", 1, 1);
        Edge.granted("a cold one who loses nothing", x, x.offIn(0), -2);
    }

    private static void first() {
        int[] good = {3, 4, 5, 6, 7};
        int[] days = {1, 2, 2, 2, 3};
        for (int i = 0; i < good.length; i++) {
            Due.is("3 a day of " + good[i], Edge.one("fresh", good[i], 3).offIn(0), days[i]);
        }
    }
}
