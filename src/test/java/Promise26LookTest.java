/** Promise 26: look. */
public final class Promise26LookTest {
    static final String DOUBT = Promise24SinceTest.DOUBT;

    public static void main(String[] args) {
        nobodyIsDoubted();
        noDayFits();
        noAct();
        theFirstOfLikeOnes();
        fewestAtMost();
        theLastAct();
        actsHeIsAgainst();
        toldOnesToo();
        Edge.asks("look", x -> x.look());
        Due.end();
    }

    private static void look(String text, int act) {
        SafeSenate x = Due.of(text);
        Edge.granted(text, x, x.look(), act);
    }

    private static void nobodyIsDoubted() {
        Edge.refused("nobody", () -> Due.of(DOUBT.replace(";doubted pa", "")), x -> x.look(), 6);
        Edge.refused("nobody, no acts", () -> Edge.one("cold", 1, 1), x -> x.look(), 6);
    }

    private static void noDayFits() {
        look(DOUBT + ";fell u;went v", -2);
    }

    private static void noAct() {
        look(Edge.SAFE + Edge.hooks(0) + Edge.seat(0, "cold", 0, 1, 0) + ";doubted pa", -2);
    }

    private static void theFirstOfLikeOnes() {
        // u leaves 1 or 41, v 41 or 1
        look(DOUBT.replace("act w day 20", "act w day 0"), 0);
        // days 0 .. 20 and 21 .. 41 by v and w both
        look(DOUBT.replace("act v day 40", "act v day 20"), 1);
    }

    private static void fewestAtMost() {
        look(DOUBT, 2);
        look(DOUBT.replace("act w day 20", "act w day 19"), 2);
        // u splits 42 into 21 and 21, w into 20 and 22
        look(DOUBT.replace("act w day 20", "act w day 19").replace("act u day 0", "act u day 20"), 0);
    }

    private static void theLastAct() {
        look(DOUBT.replace("act w day 20", "act w day 0") + ";act x day 1;act y day 2;for pa x;for pa y", 4);
    }

    /** The doubted one is against z: it goes up to day 20, and no longer. */
    private static void actsHeIsAgainst() {
        look(DOUBT.replace("hb good 99 votes 0", "hb good 99 votes 9").replace("act w day 20", "act w day 1")
            .replace("ha good 1 votes 1", "ha good 1 votes 9") + ";act z day 20;for pb z", 3);
    }

    private static void toldOnesToo() {
        look(DOUBT + ";went u;fell v;fell w", 0);
        look(DOUBT + ";fell u", 0);
    }
}
