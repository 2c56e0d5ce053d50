/** Promise 46: seed. */
public final class Promise46SeedTest {
    public static void main(String[] args) {
        numbers();
        theLeastAndTheMost();
        noAct();
        undoneWithAnActAlone();
        daysGoByIt();
        Due.end();
    }

    private static void numbers() {
        Edge.refused("65,537", Edge::used, x -> x.seed(65537) ? 1 : 0, 0, 2);
        Edge.wild("SEED", (x, wild) -> x.seed(wild) ? 1 : 0, 0, 2);
    }

    private static void theLeastAndTheMost() {
        SafeSenate x = Edge.used();
        int[] seeds = {0, 65536, 1, 65535};
        for (int seed : seeds) {
            Due.is("SEED " + seed, x.seed(seed), true);
            Due.is("no trouble", x.trouble(), 0);
            Due.is("SEED", x.size(12), seed);
        }
    }

    private static void noAct() {
        SafeSenate x = Due.of(Edge.TWO);
        x.seed(5);
        Due.is("nothing to undo", x.size(13), 0);
        Due.refused("undo", x, x.undo(), 6);
        Due.is("SEED", x.size(12), 5);
    }

    private static void undoneWithAnActAlone() {
        SafeSenate x = Due.of(Edge.TWO);
        x.seed(5);
        x.move(0, 2);
        x.seed(6);
        x.salt(0);
        x.seed(7);
        x.undo();
        Due.is("as ahead of the salting", x.size(12), 6);
        x.undo();
        Due.is("as ahead of the move", x.size(12), 5);
    }

    private static void daysGoByIt() {
        SafeSenate x = Due.of(Edge.TWO);
        x.seed(1);
        x.day();
        Due.is("SEED behind a DAY", x.size(12), 149);
    }
}
