/** Promise 31: keystone. */
public final class Promise31KeystoneTest {
    private static final String FIVE = Promise29FallsWithTest.FIVE;

    public static void main(String[] args) {
        noAct();
        noOthersFall();
        theFirstAndTheLast();
        ofLikeOnesTheFirst();
        Edge.asks("keystone", x -> x.keystone());
        Due.end();
    }

    private static void keystone(String text, int act) {
        SafeSenate x = Due.of(text);
        Edge.granted(text, x, x.keystone(), act);
    }

    private static void noAct() {
        keystone(Edge.SAFE + Edge.hooks(0) + Edge.seat(0, "cold", 0, 1, 0), -2);
    }

    private static void noOthersFall() {
        keystone(FIVE, 0);
        keystone(Edge.SAFE + Edge.hooks(0) + Edge.seat(0, "cold", 0, 1, 0) + ";act u day 0", 0);
    }

    private static void theFirstAndTheLast() {
        keystone(FIVE + Promise29FallsWithTest.CHAIN, 4);
        keystone(FIVE + ";rests y x;rests x w;rests w v;rests v u", 0);
        keystone(FIVE + ";rests u v;rests w x;rests y x", 3);
    }

    private static void ofLikeOnesTheFirst() {
        keystone(FIVE + ";rests u y;rests v w", 2);
        keystone(FIVE + ";rests v w;rests w v", 1);
        keystone(FIVE + Promise29FallsWithTest.CHAIN + ";rests y u", 0);
    }
}
