/** Promise 6: senator. */
public final class Promise06SenatorTest {
    public static void main(String[] args) {
        noneSuch();
        theFirstAndTheLast();
        kindNow();
        daysGood();
        votesAndActs();
        losesAsTheHeatIsAboveTheAir();
        saltedLosesOnEvenDays();
        losesNoMoreThanHeHas();
        Edge.asks("senator", x -> x.senator(1, 5));
        Due.end();
    }

    private static void noneSuch() {
        Edge.refused("behind the last senator", Edge::used, x -> x.senator(2, 0), 1);
        Edge.refused("behind the last of what", Edge::used, x -> x.senator(0, 6), 1);
        Edge.refused("behind six", () -> Due.of(Edge.FULL), x -> x.senator(6, 0), 1);
        Edge.wild("senator", (x, wild) -> x.senator(wild, 0), 1);
        Edge.wild("what", (x, wild) -> x.senator(0, wild), 1);
    }

    private static void theFirstAndTheLast() {
        SafeSenate x = Due.of(Edge.FULL);
        int[][] want = {{0, 0, 99, 9, 3, 3}, {0, 5, 99, 9, 29, 1}};
        for (int what = 0; what <= 5; what++) {
            Edge.granted("the first, " + what, x, x.senator(0, what), want[0][what]);
            Edge.granted("the last, " + what, x, x.senator(5, what), want[1][what]);
        }
    }

    private static void kindNow() {
        SafeSenate x = Due.of(Edge.TWO);
        Due.is("fresh", x.senator(0, 0), 0);
        Due.is("cold", x.senator(1, 0), 2);
        x.salt(1);
        Due.is("salted NOW", x.senator(1, 0), 1);
        Due.is("the other one stays", x.senator(0, 0), 0);
    }

    private static void daysGood() {
        Due.is("at most", Edge.one("fresh", 99, 1).senator(0, 2), 99);
        SafeSenate x = Edge.one("fresh", 3, 2);
        x.day();
        Due.is("one more", x.senator(0, 2), 1);
        x.day();
        Due.is("none below 0", x.senator(0, 2), 0);
        x.day();
        Due.is("and so on", x.senator(0, 2), 0);
    }

    private static void votesAndActs() {
        SafeSenate x = Due.of(Edge.SAFE + Edge.hooks(0, 0) + Edge.seat(0, "cold", 0, 1, 0) + Edge.seat(1, "cold", 1, 1, 9)
            + ";act u day 0;act v day 0;act w day 0;act x day 0;act y day 0"
            + ";for pb u;for pb v;for pb w;for pb x;for pb y");
        Due.is("no votes", x.senator(0, 3), 0);
        Due.is("most votes", x.senator(1, 3), 9);
        Due.is("for no act", x.senator(0, 4), 0);
        Due.is("for all acts", x.senator(1, 4), 31);
    }

    private static void losesAsTheHeatIsAboveTheAir() {
        // heat, air, what a fresh one loses (1 at least), what a cold one (half as much, downwards)
        int[][] rows = {{9, 0, 9, 4}, {8, 0, 8, 4}, {5, 2, 3, 1}, {5, 3, 2, 1}, {5, 4, 1, 0}, {5, 5, 1, 0}, {5, 6, 1, 0},
            {1, 9, 1, 0}, {1, 0, 1, 0}};
        for (int[] row : rows) {
            SafeSenate x = Due.of("safe quorum 1 heat " + row[0] + " thunder 100 salt 0" + Edge.hooks(row[1], row[1])
                + Edge.seat(0, "fresh", 0, 99, 0) + Edge.seat(1, "cold", 1, 99, 0));
            Due.is("heat " + row[0] + " air " + row[1] + " fresh", x.senator(0, 5), row[2]);
            Due.is("heat " + row[0] + " air " + row[1] + " cold", x.senator(1, 5), row[3]);
        }
    }

    private static void saltedLosesOnEvenDays() {
        SafeSenate x = Edge.one("salted", 9, 9);
        for (int day = 0; day < 6; day++) {
            Due.is("on day " + day, x.senator(0, 5), day % 2 == 0 ? 1 : 0);
            x.day();
        }
    }

    private static void losesNoMoreThanHeHas() {
        int[] good = {6, 5, 4, 1};
        int[] loses = {5, 5, 4, 1};
        for (int i = 0; i < good.length; i++) {
            Due.is("fresh, good for " + good[i], Edge.one("fresh", good[i], 5).senator(0, 5), loses[i]);
        }
        Due.is("cold, good for 4", Edge.one("cold", 4, 9).senator(0, 5), 4);
        Due.is("cold, good for 3", Edge.one("cold", 3, 9).senator(0, 5), 3);
        String[] kinds = {"fresh", "cold", "salted"};
        for (String kind : kinds) {
            SafeSenate x = Edge.one(kind, 1, 9);
            x.day();
            Due.is(kind + ", OFF on an odd day", x.senator(0, 5), 0);
            x.day();
            Due.is(kind + ", OFF on an even day", x.senator(0, 5), 0);
        }
    }
}
