/** Promise 28: judge. */
public final class Promise28JudgeTest {
    /** u, v and w go as told at first, x and y fall. */
    private static final String TOLD = "safe quorum 1 heat 1 thunder 100 salt 1" + Edge.hooks(0, 0) + Edge.seat(0, "fresh", 0, 3, 1)
        + ";act u day 0;act v day 1;act w day 2;act x day 3;act y day 40;for pa u;for pa v;for pa w;for pa x;for pa y";

    public static void main(String[] args) {
        nothingTold();
        allAreSo();
        theFirstByNumbers();
        nobodyNeedBeDoubted();
        asToldAtFirst();
        restingToo();
        Edge.asks("judge", x -> x.judge());
        Due.end();
    }

    private static void judged(String text, int act) {
        SafeSenate x = Due.of(text);
        Edge.granted(text, x, x.judge(), act);
    }

    private static void nothingTold() {
        judged(TOLD, -2);
        judged(Edge.SAFE + Edge.hooks(0) + Edge.seat(0, "cold", 0, 1, 0), -2);
    }

    private static void allAreSo() {
        judged(TOLD + ";went u;went v;went w;fell x;fell y", -2);
    }

    private static void theFirstByNumbers() {
        judged(TOLD + ";fell u", 0);
        judged(TOLD + ";went u;went v;fell w", 2);
        judged(TOLD + ";went y;went x;fell w", 2);
        judged(TOLD + ";went y;went u", 4);
        judged(TOLD + ";went x;fell y", 3);
    }

    /** The doubted one, too, is as told at first here. */
    private static void nobodyNeedBeDoubted() {
        judged(TOLD + ";doubted pa;went x", 3);
        judged(TOLD + ";doubted pa;went w", -2);
    }

    private static void asToldAtFirst() {
        SafeSenate x = Due.of(TOLD + ";fell x");
        x.salt(0);
        Due.is("salted he lasts beyond day 3", x.going(), 15);
        Edge.granted("but not as told", x, x.judge(), -2);
        Edge.days(x, 9);
        Edge.granted("nor later", x, x.judge(), -2);
        SafeSenate y = Due.of(TOLD + ";went w");
        Edge.days(y, 3);
        Due.is("by thunder v and w fell", y.going(), 1);
        Edge.granted("as told there is none", y, y.judge(), -2);
    }

    private static void restingToo() {
        judged(TOLD + ";rests u y;went u", 0);
        judged(TOLD + ";rests u y;fell u", -2);
    }
}
