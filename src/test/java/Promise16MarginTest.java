/** Promise 16: margin. */
public final class Promise16MarginTest {
    private static final String SIX = "safe quorum 6 heat 1 thunder 0 salt 0" + Edge.hooks(0, 0, 0, 0, 0, 0)
        + Edge.seats("fresh", 3, 9, 0, 1, 2, 3, 4, 5) + ";act u day 2;act v day 2;act w day 3;act x day 40"
        + ";for pa u;for pb u;for pc u;for pd u;for pe u;for pf u";

    public static void main(String[] args) {
        noneSuch();
        itsDayIsGoneBy();
        mostAndLeast();
        likeVotes();
        thoseGoodThen();
        Edge.asks("margin", x -> x.margin(1));
        Due.end();
    }

    private static void noneSuch() {
        Edge.refused("behind the last", Edge::used, x -> x.margin(2), 1);
        Edge.refused("behind five", () -> Due.of(Edge.FULL), x -> x.margin(5), 1);
        Edge.refused("no act", () -> Edge.one("cold", 1, 1), x -> x.margin(0), 1);
        Edge.wild("act", (x, wild) -> x.margin(wild), 1);
    }

    private static SafeSenate onDay(int day) {
        SafeSenate x = Due.of(SIX);
        Edge.days(x, day);
        return x;
    }

    private static void itsDayIsGoneBy() {
        SafeSenate x = onDay(2);
        Edge.granted("on its day", x, x.margin(0), 1054);
        Edge.refused("a day later", () -> onDay(3), y -> y.margin(0), 5);
        SafeSenate last = onDay(40);
        Edge.granted("on day 40", last, last.margin(3), 1000);
        Edge.refused("on day 41", () -> onDay(41), y -> y.margin(3), 5);
    }

    private static void mostAndLeast() {
        SafeSenate x = Due.of(SIX);
        Edge.granted("all are for it", x, x.margin(0), 1054);
        Edge.granted("nobody is", x, x.margin(1), 946);
    }

    private static void likeVotes() {
        SafeSenate x = Due.of(SIX.replace(";for pd u;for pe u;for pf u", ""));
        Edge.granted("three for, three against", x, x.margin(0), 1000);
        SafeSenate y = Due.of(SIX.replace(";for pf u", "").replace("good 3 votes 9", "good 3 votes 0"));
        Edge.granted("no votes", y, y.margin(0), 1000);
    }

    private static void thoseGoodThen() {
        SafeSenate x = Due.of(SIX);
        Edge.granted("nobody is GOOD by day 3", x, x.margin(2), 1000);
        SafeSenate y = Due.of(SIX.replace("hf good 3", "hf good 2"));
        Edge.granted("five are, by day 2", y, y.margin(0), 1045);
        Edge.granted("and against", y, y.margin(1), 955);
    }
}
