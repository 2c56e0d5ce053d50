/** Promise 41: days. */
public final class Promise41DaysTest {
    public static void main(String[] args) {
        numbers();
        inNoDays();
        belowThunder();
        theHighestSeed();
        inNinetyNineDays();
        asDayByDay();
        fromTheLastDayOn();
        Edge.asks("days", x -> x.days(65536, 99));
        Due.end();
    }

    private static void numbers() {
        Edge.refused("100 days", Edge::used, x -> x.days(0, 100), 2);
        Edge.refused("SEED 65,537", Edge::used, x -> x.days(65537, 0), 2);
        Edge.wild("days", (x, wild) -> x.days(0, wild), 2);
        Edge.wild("SEED", (x, wild) -> x.days(wild, 0), 2);
    }

    private static void good(String what, SafeSenate x, int seed, int n, int bits) {
        Edge.granted(what, x, x.days(seed, n), bits);
    }

    private static void inNoDays() {
        good("as NOW", Due.of(Edge.FULL), 65536, 0, 63);
        SafeSenate x = Edge.one("fresh", 1, 1);
        x.day();
        good("nobody", x, 0, 0, 0);
    }

    /** The first SEED by which a DRAW mod 100 is so much. */
    static int seedFor(int draw) {
        for (int seed = 0; seed < 65537; seed++) {
            if ((75L * seed + 74) % 65537 % 100 == draw) {
                return seed;
            }
        }
        return -1;
    }

    private static void belowThunder() {
        int[] draws = {0, 1, 49, 50, 98, 99};
        for (int draw : draws) {
            int seed = seedFor(draw);
            good("thunder as high as " + draw, Promise38OddsTest.cold(1, draw, 3), seed, 1, 1);
            good("thunder above " + draw, Promise38OddsTest.cold(1, draw + 1, 3), seed, 1, 0);
        }
    }

    /** 65,536 becomes 65,536 again by each DRAW: 36 mod 100. */
    private static void theHighestSeed() {
        good("thunder 36", Promise38OddsTest.cold(1, 36, 1), 65536, 99, 1);
        good("thunder 37", Promise38OddsTest.cold(1, 37, 99), 65536, 32, 1);
        good("thunder 37, a day more", Promise38OddsTest.cold(1, 37, 99), 65536, 33, 0);
    }

    private static void inNinetyNineDays() {
        good("99 of 99", Edge.one("fresh", 99, 1), 0, 99, 0);
        good("98 of 99", Edge.one("fresh", 99, 1), 0, 98, 1);
        good("salted, 50 lost by 99 DAYS", Edge.one("salted", 50, 1), 0, 99, 0);
        good("salted, a day more", Edge.one("salted", 51, 1), 0, 99, 1);
        SafeSenate odd = Edge.one("salted", 50, 1);
        odd.day();
        good("salted, 49 lost by 98 of day 1", odd, 0, 98, 0);
        good("salted, 48 by 97", odd, 0, 97, 1);
    }

    private static void asDayByDay() {
        int[] seeds = {0, 1, 4711, 65535, 65536};
        for (int seed : seeds) {
            SafeSenate x = Due.of(Edge.FULL);
            SafeSenate y = Due.of(Edge.FULL);
            y.seed(seed);
            for (int n = 1; n <= 99; n++) {
                Due.is("SEED " + seed + ", day " + n, x.days(seed, n), y.day());
            }
        }
    }

    private static void fromTheLastDayOn() {
        SafeSenate x = Edge.one("cold", 1, 1);
        Edge.days(x, 99);
        good("99 days behind day 99", x, 0, 99, 1);
    }
}
