/** Promise 32: ring. */
public final class Promise32RingTest {
    private static final String FIVE = Promise29FallsWithTest.FIVE;

    public static void main(String[] args) {
        none();
        theShortest();
        theLongest();
        asideFromTheFirst();
        Edge.asks("ring", x -> x.ring());
        Due.end();
    }

    private static void ring(String text, int answer) {
        SafeSenate x = Due.of(text);
        Edge.granted(text, x, x.ring(), answer);
    }

    private static void none() {
        ring(Edge.SAFE + Edge.hooks(0) + Edge.seat(0, "cold", 0, 1, 0), 0);
        ring(FIVE, 0);
        ring(FIVE + Promise29FallsWithTest.CHAIN, 0);
        ring(FIVE + ";rests u v;rests u w;rests v w;rests u x;rests v x;rests w x", 0);
    }

    private static void theShortest() {
        ring(FIVE + ";rests u v;rests v u", 1);
        ring(FIVE + ";rests x y;rests y x", 1);
    }

    private static void theLongest() {
        ring(FIVE + Promise29FallsWithTest.CHAIN + ";rests y u", 1);
        ring(FIVE + ";rests y x;rests x w;rests w v;rests v u;rests u y", 1);
    }

    private static void asideFromTheFirst() {
        ring(FIVE + ";rests u v;rests v w;rests w x;rests x w", 1);
        ring(FIVE + Promise29FallsWithTest.CHAIN + ";rests u y;rests u x", 0);
    }
}
