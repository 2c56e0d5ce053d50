/** Promises 6 to 10: senator, hook, act, good, quorum. */
public final class NowTest {
    private static final String TEXT = "safe quorum 2 heat 6 thunder 0 salt 2;hook a air 1;hook b air 9;hook c air 3;hook d air 6;"
        + "senator p fresh at b good 2 votes 3;senator q cold at a good 9 votes 2;senator r salted at d good 1 votes 4;"
        + "act x day 0;act y day 1;act z day 2;for p x;for q x;for r y;for q z;rests x y;rests z x;rests z y";

    public static void main(String[] args) {
        senators();
        hooks();
        acts();
        goodOnes();
        refusals();
        Due.end();
    }

    private static void row(String what, int[] got, int... want) {
        for (int i = 0; i < want.length; i++) {
            Due.is(what + " " + i, got[i], want[i]);
        }
    }

    private static int[] senatorRow(SafeSenate x, int s) {
        int[] row = new int[6];
        for (int what = 0; what < 6; what++) {
            row[what] = x.senator(s, what);
        }
        return row;
    }

    private static void senators() {
        SafeSenate x = Due.of(TEXT);
        row("p", senatorRow(x, 0), 0, 1, 2, 3, 1, 1);
        row("q", senatorRow(x, 1), 2, 0, 9, 2, 5, 2);
        row("r", senatorRow(x, 2), 1, 3, 1, 4, 2, 1);
        x.move(0, 2);
        Due.is("3 by the hook he hangs at now, but he has 2 alone", x.senator(0, 5), 2);
        x.move(1, 1);
        Due.is("cold, half of 1 at least", x.senator(1, 5), 0);
        x.salt(1);
        Due.is("salted now", x.senator(1, 0), 1);
        Due.is("salted on an even day", x.senator(1, 5), 1);
        x.day();
        Due.is("salted on an odd day", x.senator(1, 5), 0);
        Due.is("none below 0", x.senator(0, 2), 0);
        Due.is("one who is OFF loses nothing", x.senator(0, 5), 0);
        x.undo();
        x.day();
        Due.is("nor does he behind undoing", x.senator(0, 5), 0);
        Due.is("a salted one who is OFF, on an odd day", x.senator(2, 5), 0);
        x.day();
        Due.is("a salted one who is OFF, on an even day", x.senator(2, 5), 0);
        losses();
    }

    private static void losses() {
        String text = "safe quorum 1 heat 9 thunder 100 salt 0;hook a air 4;hook b air 0;hook c air 9;"
            + "senator p fresh at a good 12 votes 1;senator q cold at b good 9 votes 1;senator r fresh at c good 4 votes 1";
        SafeSenate x = Due.of(text);
        // by THUNDER 3 more are lost each DAY, which a loss told ahead of it leaves out
        int[][] left = {{12, 9, 4}, {4, 2, 0}, {0, 0, 0}};
        int[][] loss = {{5, 4, 1}, {4, 2, 0}, {0, 0, 0}};
        for (int day = 0; day < 3; day++) {
            for (int s = 0; s < 3; s++) {
                Due.is("day " + day + " has " + s, x.senator(s, 2), left[day][s]);
                Due.is("day " + day + " loses " + s, x.senator(s, 5), loss[day][s]);
            }
            x.day();
        }
    }

    private static void hooks() {
        SafeSenate x = Due.of(TEXT);
        int[] air = {1, 9, 3, 6};
        int[] who = {1, 0, -2, 2};
        for (int h = 0; h < 4; h++) {
            Due.is("air of " + h, x.hook(h, 0), air[h]);
            Due.is("who at " + h, x.hook(h, 1), who[h]);
        }
        x.move(1, 1);
        Due.is("changed over", x.hook(1, 1), 1);
        Due.is("changed over, too", x.hook(0, 1), 0);
    }

    private static void acts() {
        SafeSenate x = Due.of(TEXT);
        // day 0: all good, x 5 against 4; day 1: p, q good (r off), y has nobody: so x rests on one that doesn't go
        int[][] want = {{0, 3, 2, 0}, {1, 4, 0, 0}, {2, 2, 3, 0}};
        for (int a = 0; a < 3; a++) {
            for (int what = 0; what < 4; what++) {
                Due.is("act " + a + " " + what, x.act(a, what), want[a][what]);
            }
        }
        SafeSenate y = Due.of(TEXT.replace(";rests x y", "").replace(";rests z y", ""));
        Due.is("x goes", y.act(0, 3), 1);
        // day 2: p is off, q alone is no quorum
        Due.is("z lacks a quorum", y.act(2, 3), 0);
        y.salt(0);
        Due.is("z with p salted: 2 against 3", y.act(2, 3), 0);
        Due.is("margin", y.margin(2), 999);
        SafeSenate tie = Due.of("safe quorum 1 heat 1 thunder 0 salt 0;hook a air 0;hook b air 0;"
            + "senator p fresh at a good 9 votes 3;senator q fresh at b good 3 votes 3;act x day 1;act y day 3;for p x;for p y");
        Due.is("like votes are not more", tie.act(0, 3), 0);
        Due.is("he is off by then", tie.act(1, 3), 1);
    }

    private static void goodOnes() {
        SafeSenate x = Due.of(TEXT);
        Due.is("good", x.good(), 7);
        Due.is("quorum", x.quorum(), 1);
        Due.is("day", x.day(), 3);
        Due.is("good on day 1", x.good(), 3);
        Due.is("a quorum just so", x.quorum(), 1);
        x.day();
        Due.is("good on day 2", x.good(), 2);
        Due.is("no quorum", x.quorum(), 0);
    }

    private static void refusals() {
        SafeSenate none = new SafeSenate();
        Due.refused("senator", none, none.senator(0, 0), 1);
        Due.refused("hook", none, none.hook(0, 0), 1);
        Due.refused("act", none, none.act(0, 0), 1);
        Due.refused("good", none, none.good(), 1);
        Due.refused("quorum", none, none.quorum(), 1);
        SafeSenate x = Due.of(TEXT);
        int[] wild = {-1, 7, Integer.MAX_VALUE, Integer.MIN_VALUE};
        for (int w : wild) {
            Due.refused("senator s", x, x.senator(w, 0), 1);
            Due.refused("senator what", x, x.senator(0, w), 1);
            Due.refused("hook h", x, x.hook(w, 0), 1);
            Due.refused("hook what", x, x.hook(0, w), 1);
            Due.refused("act a", x, x.act(w, 0), 1);
            Due.refused("act what", x, x.act(0, w), 1);
            x.good();
            Due.is("good is not refused", x.trouble(), 0);
        }
        Due.refused("senator 3", x, x.senator(3, 0), 1);
        Due.refused("senator what 6", x, x.senator(0, 6), 1);
        Due.refused("hook 4", x, x.hook(4, 0), 1);
        Due.refused("hook what 2", x, x.hook(0, 2), 1);
        Due.refused("act 3", x, x.act(3, 0), 1);
        Due.refused("act what 4", x, x.act(0, 4), 1);
    }
}
