/** Promise 35: wire. */
public final class Promise35WireTest {
    public static void main(String[] args) {
        numbers();
        whoPushesAlone();
        both();
        neither();
        Edge.asks("wire", x -> x.wire(20, true, true, true));
        Due.end();
    }

    private static void numbers() {
        Edge.refused("21", Edge::used, x -> x.wire(21, false, false, false), -100, 2);
        Edge.wild("worth", (x, wild) -> x.wire(wild, true, true, true), -100, 2);
    }

    private static void has(int worth, boolean one, boolean other, int ofOne, int ofOther) {
        SafeSenate x = Due.of(Edge.TWO);
        String what = worth + " " + one + " " + other;
        Edge.granted(what + ", the one", x, x.wire(worth, one, other, false), ofOne);
        Edge.granted(what + ", the other one", x, x.wire(worth, one, other, true), ofOther);
    }

    private static void whoPushesAlone() {
        int[] worths = {0, 1, 19, 20};
        for (int worth : worths) {
            has(worth, true, false, worth, 1);
            has(worth, false, true, 1, worth);
        }
    }

    /** Half of it each, downwards, less 2. */
    private static void both() {
        int[] worths = {0, 1, 2, 3, 4, 5, 6, 19, 20};
        int[] halves = {-2, -2, -1, -1, 0, 0, 1, 7, 8};
        for (int i = 0; i < worths.length; i++) {
            has(worths[i], true, true, halves[i], halves[i]);
        }
    }

    private static void neither() {
        has(0, false, false, 0, 0);
        has(20, false, false, 0, 0);
    }
}
