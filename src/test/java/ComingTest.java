/** Promises 11 to 16: goodIn, offIn, lasts, going, nextAct, margin. */
public final class ComingTest {
    private static final String TEXT = "safe quorum 2 heat 4 thunder 100 salt 1;hook a air 1;hook b air 2;hook c air 4;"
        + "senator p fresh at a good 7 votes 3;senator q cold at b good 60 votes 2;senator r salted at c good 31 votes 4;"
        + "act x day 2;act y day 0;act z day 2;act u day 40;for p x;for q x;for r y;for q u";

    public static void main(String[] args) {
        goodIn();
        offIn();
        lasts();
        acts();
        past();
        lastPast();
        refusals();
        Due.end();
    }

    private static void goodIn() {
        SafeSenate x = Due.of(TEXT);
        int[] p = {7, 4, 1, 0, 0};
        int[] r = {31, 30, 30, 29, 29};
        for (int n = 0; n < 5; n++) {
            Due.is("p in " + n, x.goodIn(0, n), p[n]);
            Due.is("q in " + n, x.goodIn(1, n), 60 - n);
            Due.is("r in " + n, x.goodIn(2, n), r[n]);
        }
        Due.is("q in 60", x.goodIn(1, 60), 0);
        Due.is("r in 60", x.goodIn(2, 60), 1);
        x.day();
        Due.is("from an odd day in 1", x.goodIn(2, 1), 30);
        Due.is("from an odd day in 2", x.goodIn(2, 2), 29);
    }

    private static void offIn() {
        SafeSenate x = Due.of(TEXT);
        Due.is("p", x.offIn(0), 3);
        Due.is("q, the edge", x.offIn(1), 60);
        Due.is("r, past it", x.offIn(2), -2);
        Due.is("no trouble", x.trouble(), 0);
        x.day();
        x.day();
        Due.is("OFF now", x.offIn(0), 0);
    }

    private static void lasts() {
        SafeSenate x = Due.of(TEXT);
        Due.is("two of three", x.lasts(), 60);
        SafeSenate y = Due.of(TEXT.replace("quorum 2", "quorum 3"));
        Due.is("all three", y.lasts(), 3);
        SafeSenate z = Due.of(TEXT.replace("quorum 2", "quorum 4"));
        Due.is("never", z.lasts(), 0);
        SafeSenate w = Due.of("safe quorum 1 heat 1 thunder 0 salt 0;hook a air 0;senator p cold at a good 1 votes 1");
        Due.is("at most", w.lasts(), 99);
        SafeSenate v = Due.of("safe quorum 1 heat 1 thunder 0 salt 0;hook a air 0;senator p fresh at a good 99 votes 1");
        Due.is("99 by itself", v.lasts(), 99);
        SafeSenate u = Due.of("safe quorum 1 heat 1 thunder 0 salt 0;hook a air 0;senator p fresh at a good 98 votes 1");
        Due.is("98", u.lasts(), 98);
    }

    private static void acts() {
        SafeSenate x = Due.of(TEXT);
        // x: p 3 and q 2 against r 4; y: r 4 against 5; z: nobody; u: q 2, r off? r 31 - 20 = 11 is good: 2 against 4
        Due.is("going", x.going(), 1);
        Due.is("next is now's", x.nextAct(), 1);
        Due.is("margin of x", x.margin(0), 1001);
        Due.is("margin of y", x.margin(1), 999);
        Due.is("margin of z", x.margin(2), 991);
        Due.is("margin of u", x.margin(3), 998);
        // thunder on the first day: p 7 - 3 - 3 = 1, off on day 2; q 2 against r 4
        x.day();
        Due.is("going behind a thunder", x.going(), 0);
        Due.is("next, the first of two", x.nextAct(), 0);
        Due.is("margin of x then", x.margin(0), 998);
        x.day();
        Due.is("next is now's again", x.nextAct(), 0);
        x.day();
        Due.is("next", x.nextAct(), 3);
        SafeSenate none = Due.of("safe quorum 1 heat 1 thunder 0 salt 0;hook a air 0;senator p cold at a good 1 votes 1;act x day 0;for p x");
        Due.is("goes", none.going(), 1);
        none.day();
        Due.is("none is put next", none.nextAct(), -2);
        Due.refused("gone by", none, none.margin(0), 5);
    }

    /** Acts of days gone by are settled by those who were GOOD then, not by what would have been. */
    private static void past() {
        SafeSenate x = Due.of("safe quorum 1 heat 3 thunder 0 salt 3;hook a air 0;hook b air 3;"
            + "senator p fresh at a good 6 votes 2;senator q fresh at b good 2 votes 3;act x day 1;act y day 2;for p x;for p y");
        Due.is("as told", x.going(), 0);
        x.salt(0);
        Due.is("p salted", x.going(), 2);
        x.move(1, 0);
        Due.is("q hung worse", x.going(), 3);
        x.day();
        x.day();
        x.day();
        Due.is("gone by", x.going(), 3);
        x.move(0, 0);
        Due.is("gone by, moved later", x.going(), 3);
        Due.is("day 3", x.size(11), 3);
        Due.is("x went", x.act(0, 3), 1);
    }

    /** The last day on which an act may be put, seen from later days. */
    private static void lastPast() {
        SafeSenate x = Due.of("safe quorum 1 heat 1 thunder 0 salt 0;hook a air 0;hook b air 0;"
            + "senator p fresh at a good 41 votes 2;senator q fresh at b good 40 votes 3;act x day 40;act y day 39;for p x;for p y");
        Due.is("ahead", x.going(), 1);
        for (int day = 1; day <= 99; day++) {
            x.day();
            Due.is("on day " + day, x.going(), 1);
        }
    }

    private static void refusals() {
        SafeSenate none = new SafeSenate();
        Due.refused("goodIn", none, none.goodIn(0, 0), 1);
        Due.refused("offIn", none, none.offIn(0), 1);
        Due.refused("lasts", none, none.lasts(), 1);
        Due.refused("going", none, none.going(), 1);
        Due.refused("nextAct", none, none.nextAct(), 1);
        Due.refused("margin", none, none.margin(0), 1);
        SafeSenate x = Due.of(TEXT);
        Due.refused("1 ahead of 2", x, x.goodIn(3, 61), 1);
        Due.refused("goodIn 61", x, x.goodIn(0, 61), 2);
        Due.refused("goodIn -1", x, x.goodIn(0, -1), 2);
        Due.refused("goodIn s", x, x.goodIn(-1, 0), 1);
        Due.refused("offIn s", x, x.offIn(3), 1);
        Due.refused("margin a", x, x.margin(4), 1);
        Due.refused("margin -1", x, x.margin(-1), 1);
    }
}
