/** Promise 24: since. */
public final class Promise24SinceTest {
    /** The doubted one alone has votes: u goes from day 1 on, w from 21, v by 41 alone. */
    static final String DOUBT = "safe quorum 1 heat 1 thunder 100 salt 2" + Edge.hooks(0, 0) + Edge.seat(0, "fresh", 0, 1, 1)
        + Edge.seat(1, "fresh", 1, 99, 0) + ";act u day 0;act v day 40;act w day 20;for pa u;for pa v;for pa w;doubted pa";

    public static void main(String[] args) {
        nobodyIsDoubted();
        allDays();
        theFirstAndTheLastDay();
        noDay();
        goodAheadOfIt();
        theOthersAsToldAtFirst();
        theQuorumToo();
        restingToo();
        Edge.asks("since", x -> x.since());
        Due.end();
    }

    private static void fit(String text, int days) {
        SafeSenate x = Due.of(text);
        Edge.granted(text, x, x.since(), days);
    }

    private static void nobodyIsDoubted() {
        Edge.refused("nobody", () -> Due.of(DOUBT.replace(";doubted pa", ";went u")), x -> x.since(), 6);
        Edge.refused("nobody, no acts", () -> Edge.one("cold", 1, 1), x -> x.since(), 6);
    }

    private static void allDays() {
        fit(DOUBT, 42);
        fit(Edge.SAFE + Edge.hooks(0) + Edge.seat(0, "cold", 0, 1, 0) + ";doubted pa", 42);
    }

    private static void theFirstAndTheLastDay() {
        fit(DOUBT + ";went u", 41);
        fit(DOUBT + ";fell u", 1);
        fit(DOUBT + ";went v", 1);
        fit(DOUBT + ";fell v", 41);
        fit(DOUBT + ";went u;fell v", 40);
        fit(DOUBT + ";went w", 21);
        fit(DOUBT + ";fell w", 21);
    }

    private static void noDay() {
        fit(DOUBT + ";fell u;went v", 0);
        fit(DOUBT + ";fell w;went v", 0);
    }

    /** He counts as GOOD up to that day, though as told he is OFF from day 1 on. */
    private static void goodAheadOfIt() {
        fit(DOUBT + ";went u;went w;went v", 1);
        fit((DOUBT + ";went u;went w;went v").replace("ha good 1", "ha good 99"), 1);
        fit((DOUBT + ";fell u;fell w;fell v").replace("ha good 1", "ha good 99"), 1);
    }

    private static void theOthersAsToldAtFirst() {
        // pb is against, GOOD up to day 20 as told: w falls by him whatever pa does
        String against = DOUBT.replace("hb good 99 votes 0", "hb good 21 votes 1");
        fit(against + ";went w", 0);
        fit(against.replace("good 21", "good 20") + ";went w", 21);
        SafeSenate x = Due.of(against.replace("good 21", "good 20") + ";went w");
        x.salt(1);
        Edge.days(x, 9);
        x.move(0, 1);
        Edge.granted("whatever was done since", x, x.since(), 21);
    }

    private static void theQuorumToo() {
        String two = DOUBT.replace("quorum 1", "quorum 2").replace(";for pa w", ";for pb w").replace("votes 0", "votes 9");
        fit(two + ";went w", 21);
        fit(two.replace("quorum 2", "quorum 1") + ";went w", 42);
    }

    private static void restingToo() {
        fit(DOUBT + ";rests u v;went u", 1);
        fit(DOUBT + ";rests u v;fell u", 41);
    }
}
