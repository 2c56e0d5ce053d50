/** Promise 43: day. */
public final class Promise43DayTest {
    public static void main(String[] args) {
        theLastDay();
        goodOnesThen();
        noneBelowZero();
        saltedByEvenDays();
        thunderBySeed();
        seedByEachDay();
        isAnAct();
        Due.end();
    }

    private static SafeSenate onDay(int day) {
        SafeSenate x = Due.of(Edge.TWO);
        Edge.days(x, day);
        return x;
    }

    private static void theLastDay() {
        SafeSenate x = onDay(98);
        Edge.granted("to day 99", x, x.day(), 0);
        Due.is("day 99", x.size(11), 99);
        Edge.refused("on day 99", () -> onDay(99), y -> y.day(), 3);
        SafeSenate z = onDay(99);
        z.day();
        z.undo();
        Due.is("nothing was kept for undoing", z.size(11), 98);
        Edge.granted("room again", z, z.day(), 0);
    }

    private static void goodOnesThen() {
        SafeSenate x = Due.of("safe quorum 1 heat 1 thunder 0 salt 0" + Edge.hooks(0, 0, 0, 0, 0, 0)
            + Edge.seats("fresh", 2, 1, 0, 1, 2, 3, 4) + Edge.seat(5, "fresh", 5, 3, 1));
        int[] bits = {63, 32, 0, 0};
        for (int day = 0; day < bits.length; day++) {
            Edge.granted("then " + (day + 1), x, x.day(), bits[day]);
            Due.is("its number", x.size(11), day + 1);
        }
    }

    private static void noneBelowZero() {
        int[] good = {4, 3, 2};
        int[] left = {1, 0, 0};
        for (int i = 0; i < good.length; i++) {
            SafeSenate x = Edge.one("fresh", good[i], 3);
            x.day();
            Due.is("3 of " + good[i], x.senator(0, 2), left[i]);
        }
    }

    private static void saltedByEvenDays() {
        SafeSenate x = Edge.one("salted", 3, 9);
        int[] left = {2, 2, 1, 1, 0, 0};
        for (int i = 0; i < left.length; i++) {
            x.day();
            Due.is("by day " + i, x.senator(0, 2), left[i]);
        }
    }

    private static void thunderBySeed() {
        int[] draws = {0, 50, 99};
        for (int draw : draws) {
            for (int thunder = draw; thunder <= draw + 1; thunder++) {
                SafeSenate x = Due.of("safe quorum 1 heat 1 thunder " + thunder + " salt 0" + Edge.hooks(0, 0, 0)
                    + Edge.seat(0, "fresh", 0, 9, 1) + Edge.seat(1, "cold", 1, 9, 1) + Edge.seat(2, "salted", 2, 9, 1));
                x.seed(Promise41DaysTest.seedFor(draw));
                x.day();
                int more = thunder > draw ? 3 : 0;
                Due.is("fresh, " + draw + " by " + thunder, x.senator(0, 2), 8 - more);
                Due.is("cold, " + draw + " by " + thunder, x.senator(1, 2), 9 - more);
                Due.is("salted, " + draw + " by " + thunder, x.senator(2, 2), 8);
            }
        }
        SafeSenate y = Promise38OddsTest.cold(1, 100, 2);
        Edge.granted("2 of 3 by a thunder", y, y.day(), 0);
        Due.is("none below 0", y.senator(0, 2), 0);
    }

    private static void seedByEachDay() {
        SafeSenate x = Due.of(Edge.TWO);
        int[] seeds = {74, 5624, 28652, 51790, 17641};
        for (int seed : seeds) {
            x.day();
            Due.is("SEED", x.size(12), seed);
        }
        x.seed(65536);
        x.day();
        Due.is("the highest stays", x.size(12), 65536);
        x.seed(65535);
        x.day();
        Due.is("the one below it", x.size(12), 65461);
    }

    private static void isAnAct() {
        SafeSenate x = Due.of(Edge.TWO);
        x.day();
        Due.is("one to undo", x.size(13), 1);
    }
}
