/** Promise 29: fallsWith. */
public final class Promise29FallsWithTest {
    /** Five acts of which none goes: what falls with what is a matter of resting alone. */
    static final String FIVE = "safe quorum 1 heat 1 thunder 0 salt 0" + Edge.hooks(0) + Edge.seat(0, "fresh", 0, 9, 1)
        + ";act u day 0;act v day 1;act w day 2;act x day 3;act y day 4";
    static final String CHAIN = ";rests u v;rests v w;rests w x;rests x y";

    public static void main(String[] args) {
        noneSuch();
        itself();
        oneAfterTheOther();
        inARing();
        notOnWhichItRests();
        Edge.asks("fallsWith", x -> x.fallsWith(1));
        Due.end();
    }

    private static void falls(String text, int... bits) {
        SafeSenate x = Due.of(text);
        for (int a = 0; a < bits.length; a++) {
            Edge.granted(text + ", " + a, x, x.fallsWith(a), bits[a]);
        }
    }

    private static void noneSuch() {
        Edge.refused("behind the last", Edge::used, x -> x.fallsWith(2), 1);
        Edge.refused("behind five", () -> Due.of(FIVE), x -> x.fallsWith(5), 1);
        Edge.refused("no act", () -> Edge.one("cold", 1, 1), x -> x.fallsWith(0), 1);
        Edge.wild("act", (x, wild) -> x.fallsWith(wild), 1);
    }

    private static void itself() {
        falls(FIVE, 1, 2, 4, 8, 16);
    }

    private static void oneAfterTheOther() {
        falls(FIVE + CHAIN, 1, 3, 7, 15, 31);
        falls(FIVE + ";rests y x;rests x w;rests w v;rests v u", 31, 30, 28, 24, 16);
    }

    private static void inARing() {
        falls(FIVE + CHAIN + ";rests y u", 31, 31, 31, 31, 31);
        falls(FIVE + ";rests u v;rests v u;rests w v", 7, 7, 4, 8, 16);
    }

    private static void notOnWhichItRests() {
        falls(FIVE + ";rests u v;rests u w;rests u x;rests u y", 1, 3, 5, 9, 17);
    }
}
