/** Promise 36: rests. */
public final class Promise36RestsTest {
    public static void main(String[] args) {
        numbers();
        howMany();
        Edge.asks("rests", x -> x.rests(20));
        Due.end();
    }

    private static void numbers() {
        Edge.refused("21", Edge::used, x -> x.rests(21), 2);
        Edge.wild("worth", (x, wild) -> x.rests(wild), 2);
    }

    /** Worth 0: neither, and either alone; 1 to 5: either alone; 6 and 7: both, too, by 1 against 1; from 8 on both alone. */
    private static void howMany() {
        int[] rests = {3, 2, 2, 2, 2, 2, 3, 3, 1, 1, 1, 1, 1, 1, 1, 1, 1, 1, 1, 1, 1};
        SafeSenate x = Due.of(Edge.TWO);
        for (int worth = 0; worth <= 20; worth++) {
            Edge.granted("worth " + worth, x, x.rests(worth), rests[worth]);
        }
    }
}
