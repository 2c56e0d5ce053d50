/** Promise 15: nextAct. */
public final class Promise15NextActTest {
    private static final String ONE = "safe quorum 1 heat 1 thunder 0 salt 0" + Edge.hooks(0) + Edge.seat(0, "cold", 0, 9, 1);

    public static void main(String[] args) {
        noAct();
        nowsToo();
        theFirstOfLikeDays();
        theLastDay();
        Edge.asks("nextAct", x -> x.nextAct());
        Due.end();
    }

    private static void noAct() {
        SafeSenate x = Due.of(ONE);
        Edge.granted("no act", x, x.nextAct(), -2);
    }

    private static void nowsToo() {
        SafeSenate x = Due.of(ONE + ";act u day 2;act v day 1;act w day 0");
        int[] next = {2, 1, 0, -2};
        for (int day = 0; day < next.length; day++) {
            Edge.granted("on day " + day, x, x.nextAct(), next[day]);
            x.day();
        }
    }

    private static void theFirstOfLikeDays() {
        SafeSenate x = Due.of(ONE + ";act u day 0;act v day 5;act w day 9;act x day 5;act y day 5");
        x.day();
        Edge.granted("of three", x, x.nextAct(), 1);
        Edge.days(x, 5);
        Edge.granted("behind them", x, x.nextAct(), 2);
    }

    private static void theLastDay() {
        SafeSenate x = Due.of(ONE + ";act u day 40;act v day 40");
        Edge.granted("from day 0", x, x.nextAct(), 0);
        Edge.days(x, 40);
        Edge.granted("on day 40", x, x.nextAct(), 0);
        x.day();
        Edge.granted("on day 41", x, x.nextAct(), -2);
        Edge.days(x, 58);
        Edge.granted("on day 99", x, x.nextAct(), -2);
    }
}
