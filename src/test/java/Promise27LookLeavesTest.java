/** Promise 27: lookLeaves. */
public final class Promise27LookLeavesTest {
    private static final String DOUBT = Promise24SinceTest.DOUBT;

    public static void main(String[] args) {
        nobodyIsDoubted();
        likewiseNone();
        halfAndHalf();
        allButOne();
        oneDay();
        actsHeIsAgainst();
        allOfThem();
        Edge.asks("lookLeaves", x -> x.lookLeaves());
        Due.end();
    }

    private static void leaves(String text, int days) {
        SafeSenate x = Due.of(text);
        Edge.granted(text, x, x.lookLeaves(), days);
    }

    private static void nobodyIsDoubted() {
        Edge.refused("nobody", () -> Due.of(DOUBT.replace(";doubted pa", "")), x -> x.lookLeaves(), 6);
        Edge.refused("nobody, no acts", () -> Edge.one("cold", 1, 1), x -> x.lookLeaves(), 6);
    }

    private static void likewiseNone() {
        leaves(DOUBT + ";fell u;went v", -2);
        leaves(Edge.SAFE + Edge.hooks(0) + Edge.seat(0, "cold", 0, 1, 0) + ";doubted pa", -2);
    }

    private static void halfAndHalf() {
        leaves(DOUBT, 21);
        leaves(DOUBT.replace("act w day 20", "act w day 21"), 22);
        leaves(DOUBT.replace("act w day 20", "act w day 19"), 22);
    }

    private static void allButOne() {
        leaves(DOUBT.replace("act w day 20", "act w day 40"), 41);
        leaves(DOUBT.replace("act w day 20", "act w day 0"), 41);
    }

    private static void oneDay() {
        leaves(DOUBT + ";fell u", 1);
        leaves(DOUBT + ";went v", 1);
    }

    /** pb alone is for z, and it goes by since 0 .. 20: pa is against it. */
    private static void actsHeIsAgainst() {
        String against = DOUBT.replace("hb good 99 votes 0", "hb good 99 votes 1").replace(";for pa u;for pa v;for pa w", "");
        leaves(against + ";act z day 20;for pb z", 21);
        leaves(against + ";act z day 0;for pb z", 41);
        leaves(against + ";act z day 0;for pb z;went z", 1);
    }

    /** No act tells more: nobody is for them. */
    private static void allOfThem() {
        leaves(DOUBT.replace(";for pa u;for pa v;for pa w", ""), 42);
    }
}
