/** Promise 42: thunders. */
public final class Promise42ThundersTest {
    public static void main(String[] args) {
        numbers();
        inNoDays();
        noneAndAll();
        belowThunder();
        theHighestSeed();
        Edge.asks("thunders", x -> x.thunders(65536, 99));
        Due.end();
    }

    private static void numbers() {
        Edge.refused("100 days", Edge::used, x -> x.thunders(0, 100), 2);
        Edge.refused("SEED 65,537", Edge::used, x -> x.thunders(65537, 0), 2);
        Edge.wild("days", (x, wild) -> x.thunders(0, wild), 2);
        Edge.wild("SEED", (x, wild) -> x.thunders(wild, 0), 2);
    }

    private static void thunders(String what, int thunder, int seed, int n, int count) {
        SafeSenate x = Promise38OddsTest.cold(1, thunder, 1);
        Edge.granted(what, x, x.thunders(seed, n), count);
    }

    private static void inNoDays() {
        thunders("0 days", 100, 0, 0, 0);
    }

    private static void noneAndAll() {
        int[] seeds = {0, 65536};
        for (int seed : seeds) {
            thunders("never", 0, seed, 99, 0);
            thunders("always", 100, seed, 99, 99);
            thunders("always, a day", 100, seed, 1, 1);
        }
    }

    private static void belowThunder() {
        int[] draws = {0, 1, 49, 50, 98, 99};
        for (int draw : draws) {
            int seed = Promise41DaysTest.seedFor(draw);
            thunders("thunder as high as " + draw, draw, seed, 1, 0);
            thunders("thunder above " + draw, draw + 1, seed, 1, 1);
        }
        // 0 becomes 74, 5,624, 28,652, 51,790, 17,641
        int[] counts = {0, 1, 1, 1, 2};
        for (int n = 1; n <= 5; n++) {
            thunders("42 in " + n, 42, 0, n, counts[n - 1]);
        }
    }

    private static void theHighestSeed() {
        thunders("36", 36, 65536, 99, 0);
        thunders("37", 37, 65536, 99, 99);
    }
}
