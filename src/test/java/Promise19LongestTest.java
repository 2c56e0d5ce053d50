/** Promise 19: longest. */
public final class Promise19LongestTest {
    public static void main(String[] args) {
        neverAQuorum();
        nowIsTheFirst();
        ninetyNineAtMost();
        oneDayMoreByAHook();
        asManyAsTheQuorum();
        fromNowOn();
        Edge.asks("longest", x -> x.longest());
        Due.end();
    }

    private static void neverAQuorum() {
        SafeSenate x = Due.of("safe quorum 2 heat 1 thunder 0 salt 0" + Edge.hooks(0, 9) + Edge.seat(0, "cold", 0, 99, 9));
        Edge.granted("one of two", x, x.longest(), 0);
        SafeSenate y = Edge.one("fresh", 1, 1);
        y.day();
        Edge.granted("nobody is GOOD", y, y.longest(), 0);
    }

    private static void nowIsTheFirst() {
        SafeSenate x = Edge.one("fresh", 9, 9);
        Edge.granted("NOW alone", x, x.longest(), 1);
    }

    private static void ninetyNineAtMost() {
        int[] good = {98, 99};
        for (int days : good) {
            SafeSenate x = Edge.one("fresh", days, 1);
            Edge.granted("fresh " + days, x, x.longest(), days);
        }
        SafeSenate salted = Edge.one("salted", 99, 1);
        Edge.granted("197 of a salted one", salted, salted.longest(), 99);
        SafeSenate cold = Due.of("safe quorum 1 heat 9 thunder 0 salt 0" + Edge.hooks(0, 7, 8) + Edge.seat(0, "cold", 0, 1, 1));
        Edge.granted("for ever by one hook", cold, cold.longest(), 99);
    }

    private static void oneDayMoreByAHook() {
        SafeSenate x = Due.of("safe quorum 1 heat 3 thunder 0 salt 0" + Edge.hooks(0, 1) + Edge.seat(0, "fresh", 0, 5, 1));
        Edge.granted("as hung NOW", x, x.lasts(), 2);
        Edge.granted("at the other hook", x, x.longest(), 3);
    }

    /** By losses of 1 to 6 a day and 6 days each: 6, 3, 2, 2, 2, 1 days. */
    private static void asManyAsTheQuorum() {
        int[] longest = {6, 3, 2, 2, 2, 1};
        for (int quorum = 1; quorum <= 6; quorum++) {
            SafeSenate x = Due.of("safe quorum " + quorum + " heat 6 thunder 0 salt 0" + Edge.hooks(0, 1, 2, 3, 4, 5)
                + Edge.seats("fresh", 6, 1, 0, 1, 2, 3, 4, 5));
            Edge.granted("quorum " + quorum, x, x.longest(), longest[quorum - 1]);
        }
    }

    private static void fromNowOn() {
        SafeSenate x = Due.of("safe quorum 1 heat 2 thunder 0 salt 1" + Edge.hooks(0, 1) + Edge.seat(0, "fresh", 0, 9, 1));
        Edge.granted("day 0", x, x.longest(), 9);
        x.day();
        Edge.granted("2 lost by a DAY at the worse hook", x, x.longest(), 7);
        x.salt(0);
        Edge.granted("salted, from an odd day", x, x.longest(), 14);
        x.day();
        Edge.granted("and from an even one", x, x.longest(), 13);
        Edge.days(x, 97);
        Edge.granted("OFF by the last day", x, x.longest(), 0);
    }
}
