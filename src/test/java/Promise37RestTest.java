/** Promise 37: rest. */
public final class Promise37RestTest {
    public static void main(String[] args) {
        numbers();
        theFirst();
        Edge.asks("rest", x -> x.rest(20));
        Due.end();
    }

    private static void numbers() {
        Edge.refused("21", Edge::used, x -> x.rest(21), 2);
        Edge.wild("worth", (x, wild) -> x.rest(wild), 2);
    }

    /** Not pushing ahead, the one's first: so that the other one pushes alone comes ahead of the one alone and of both. */
    private static void theFirst() {
        int[] first = {0, 1, 1, 1, 1, 1, 1, 1, 11, 11, 11, 11, 11, 11, 11, 11, 11, 11, 11, 11, 11};
        SafeSenate x = Due.of(Edge.TWO);
        for (int worth = 0; worth <= 20; worth++) {
            Edge.granted("worth " + worth, x, x.rest(worth), first[worth]);
        }
    }
}
