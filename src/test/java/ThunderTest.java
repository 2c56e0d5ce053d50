/** Promises 38 to 42: odds, goodOdds, mean, days, thunders. */
public final class ThunderTest {
    private static final String TEXT = "safe quorum 2 heat 2 thunder 30 salt 1;hook a air 1;hook b air 0;hook c air 0;"
        + "senator p fresh at a good 6 votes 1;senator q cold at b good 7 votes 1;senator r salted at c good 2 votes 1";

    public static void main(String[] args) {
        oddsOfDays();
        certain();
        draws();
        refusals();
        Due.end();
    }

    private static void fraction(String what, long gotUpper, long gotLower, long upper, long lower) {
        Due.is(what + " upper", gotUpper, upper);
        Due.is(what + " lower", gotLower, lower);
    }

    private static void oddsOfDays() {
        SafeSenate x = Due.of(TEXT);
        fraction("odds 0", x.odds(0, false), x.odds(0, true), 1, 1);
        fraction("odds 1", x.odds(1, false), x.odds(1, true), 1, 1);
        // in 2 days: p 4 - 3k, q 5 - 3k, r 1: a quorum unless both thunder
        fraction("odds 2", x.odds(2, false), x.odds(2, true), 91, 100);
        fraction("p in 2", x.goodOdds(0, 2, false), x.goodOdds(0, 2, true), 91, 100);
        fraction("r in 2", x.goodOdds(2, 2, false), x.goodOdds(2, 2, true), 1, 1);
        // 3 with 91, 1 with 9
        fraction("mean 2", x.mean(2, false), x.mean(2, true), 141, 50);
    }

    private static void certain() {
        SafeSenate never = Due.of(TEXT.replace("thunder 30", "thunder 0"));
        fraction("no thunder", never.odds(6, false), never.odds(6, true), 0, 1);
        fraction("p in 5", never.goodOdds(0, 5, false), never.goodOdds(0, 5, true), 1, 1);
        fraction("p in 6", never.goodOdds(0, 6, false), never.goodOdds(0, 6, true), 0, 1);
        fraction("q in 6", never.goodOdds(1, 6, false), never.goodOdds(1, 6, true), 1, 1);
        fraction("mean 6", never.mean(6, false), never.mean(6, true), 1, 1);
        SafeSenate ever = Due.of(TEXT.replace("thunder 30", "thunder 100"));
        fraction("thunder", ever.odds(1, false), ever.odds(1, true), 1, 1);
        fraction("thunder twice", ever.odds(2, false), ever.odds(2, true), 0, 1);
        fraction("mean of one", ever.mean(2, false), ever.mean(2, true), 1, 1);
        SafeSenate third = Due.of("safe quorum 1 heat 1 thunder 33 salt 0;hook a air 0;senator p cold at a good 18 votes 1");
        // OFF by six thunders only: 1 - 33^6 / 100^6, which has no common divisor
        long all = 1000000000000L;
        fraction("lowest terms", third.odds(6, false), third.odds(6, true), all - 1291467969L, all);
        fraction("mean likewise", third.mean(6, false), third.mean(6, true), all - 1291467969L, all);
    }

    private static void draws() {
        SafeSenate x = Due.of(TEXT);
        // 0: 74, 5624 (24, thunder), 28652 (52), 51790 (90), 17641 (41)
        int[] thunders = {0, 0, 1, 1, 1, 1};
        int[] good = {7, 7, 7, 2, 0, 0};
        for (int n = 0; n < 6; n++) {
            Due.is("thunders in " + n, x.thunders(0, n), thunders[n]);
        }
        // p 6, 5, 1, 0; q 7, 6, 2, 1, 0; r 2, 1, 1, 0
        for (int n = 0; n < 6; n++) {
            Due.is("days in " + n, x.days(0, n), good[n]);
        }
        Due.is("the SEED stays", x.size(12), 0);
        Due.is("the highest SEED", x.thunders(65536, 1), (75L * 65536 + 74) % 65537 % 100 < 30 ? 1 : 0);
        int[] byDay = new int[99];
        SafeSenate y = Due.of(TEXT.replace("good 6", "good 99").replace("good 7", "good 99"));
        y.seed(4711);
        SafeSenate z = Due.of(TEXT.replace("good 6", "good 99").replace("good 7", "good 99"));
        for (int n = 0; n < 99; n++) {
            byDay[n] = y.day();
            Due.is("day by day " + n, z.days(4711, n + 1), byDay[n]);
        }
        SafeSenate ever = Due.of(TEXT.replace("thunder 30", "thunder 100"));
        Due.is("always", ever.thunders(7, 99), 99);
        SafeSenate never = Due.of(TEXT.replace("thunder 30", "thunder 0"));
        Due.is("never", never.thunders(7, 99), 0);
        x.day();
        Due.is("from NOW on", x.days(74, 1), 7);
    }

    private static void refusals() {
        SafeSenate none = new SafeSenate();
        Due.refused("odds", none, none.odds(9, true), 1);
        Due.refused("goodOdds", none, none.goodOdds(0, 9, true), 1);
        Due.refused("mean", none, none.mean(9, true), 1);
        Due.refused("days", none, none.days(-1, 0), 1);
        Due.refused("thunders", none, none.thunders(-1, 0), 1);
        SafeSenate x = Due.of(TEXT);
        Due.refused("goodOdds 1 ahead of 2", x, x.goodOdds(3, 7, true), 1);
        int[] wild = {-1, 7, Integer.MAX_VALUE, Integer.MIN_VALUE};
        for (int w : wild) {
            Due.refused("odds " + w, x, x.odds(w, false), 2);
            Due.refused("goodOdds " + w, x, x.goodOdds(0, w, true), 2);
            Due.refused("goodOdds of " + w, x, x.goodOdds(w, 0, true), 1);
            Due.refused("mean " + w, x, x.mean(w, true), 2);
        }
        int[] wilder = {-1, 65537, Integer.MAX_VALUE, Integer.MIN_VALUE};
        for (int w : wilder) {
            Due.refused("days seed " + w, x, x.days(w, 0), 2);
            Due.refused("days n " + w, x, x.days(0, w), 2);
            Due.refused("thunders seed " + w, x, x.thunders(w, 0), 2);
            Due.refused("thunders n " + w, x, x.thunders(0, w), 2);
        }
        Due.refused("days 100", x, x.days(0, 100), 2);
        Due.refused("thunders 100", x, x.thunders(0, 100), 2);
        x.days(65536, 99);
        Due.is("not refused", x.trouble(), 0);
    }
}
