/** Promise 8: act. */
public final class Promise08ActTest {
    public static void main(String[] args) {
        noneSuch();
        theFirstAndTheLast();
        nobodyAndNone();
        goes();
        Edge.asks("act", x -> x.act(1, 3));
        Due.end();
    }

    private static void noneSuch() {
        Edge.refused("behind the last act", Edge::used, x -> x.act(2, 0), 1);
        Edge.refused("behind the last of what", Edge::used, x -> x.act(0, 4), 1);
        Edge.refused("behind five", () -> Due.of(Edge.FULL), x -> x.act(5, 0), 1);
        Edge.refused("no acts", () -> Edge.one("cold", 1, 1), x -> x.act(0, 0), 1);
        Edge.wild("act", (x, wild) -> x.act(wild, 0), 1);
        Edge.wild("what", (x, wild) -> x.act(0, wild), 1);
    }

    private static void theFirstAndTheLast() {
        SafeSenate x = Due.of(Edge.FULL);
        // u goes by itself, but rests on w, x and y, which have 9 or 18 of 54 votes
        int[][] want = {{0, 63, 30, 0}, {40, 48, 0, 0}};
        for (int what = 0; what <= 3; what++) {
            Edge.granted("the first, " + what, x, x.act(0, what), want[0][what]);
            Edge.granted("the last, " + what, x, x.act(4, what), want[1][what]);
        }
    }

    private static void nobodyAndNone() {
        SafeSenate x = Due.of(Edge.TWO + ";act z day 0");
        Due.is("day 0", x.act(2, 0), 0);
        Due.is("nobody is for it", x.act(2, 1), 0);
        Due.is("it rests on none", x.act(2, 2), 0);
        Due.is("it doesn't go", x.act(2, 3), 0);
    }

    private static void goes() {
        SafeSenate x = Due.of(Edge.SAFE + Edge.hooks(0) + Edge.seat(0, "cold", 0, 9, 1) + ";act u day 0;act v day 0;for pa u");
        Edge.granted("goes", x, x.act(0, 3), 1);
        Edge.granted("doesn't", x, x.act(1, 3), 0);
        SafeSenate y = Due.of(Edge.SAFE + Edge.hooks(0) + Edge.seat(0, "cold", 0, 9, 1)
            + ";act u day 0;act v day 0;for pa u;rests u v");
        Edge.granted("goes by itself, but rests on one that doesn't", y, y.act(0, 3), 0);
    }
}
