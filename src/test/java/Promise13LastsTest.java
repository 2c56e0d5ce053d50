/** Promise 13: lasts. */
public final class Promise13LastsTest {
    public static void main(String[] args) {
        noQuorumNow();
        nowIsTheFirst();
        ninetyNineAtMost();
        asLongAsTheQuorumIsGood();
        oneBehindTheOther();
        Edge.asks("lasts", x -> x.lasts());
        Due.end();
    }

    private static void noQuorumNow() {
        SafeSenate x = Edge.one("fresh", 1, 1);
        x.day();
        Edge.granted("nobody", x, x.lasts(), 0);
        SafeSenate y = Due.of("safe quorum 2 heat 1 thunder 0 salt 0" + Edge.hooks(0) + Edge.seat(0, "cold", 0, 99, 9));
        Edge.granted("one of two", y, y.lasts(), 0);
    }

    private static void nowIsTheFirst() {
        SafeSenate x = Edge.one("fresh", 1, 1);
        Edge.granted("NOW alone", x, x.lasts(), 1);
        SafeSenate y = Edge.one("fresh", 9, 9);
        Edge.granted("9 lost by the next DAY", y, y.lasts(), 1);
        SafeSenate z = Edge.one("fresh", 9, 8);
        Edge.granted("8 lost by it", z, z.lasts(), 2);
    }

    private static void ninetyNineAtMost() {
        SafeSenate x = Edge.one("fresh", 98, 1);
        Edge.granted("98", x, x.lasts(), 98);
        SafeSenate y = Edge.one("fresh", 99, 1);
        Edge.granted("99", y, y.lasts(), 99);
        SafeSenate z = Edge.one("cold", 1, 1);
        Edge.granted("for ever", z, z.lasts(), 99);
        // from an even day on n days of a salted one are 2n - 1, from an odd one 2n
        int[] good = {49, 50, 51};
        int[] even = {97, 99, 99};
        int[] odd = {98, 99, 99};
        for (int i = 0; i < good.length; i++) {
            SafeSenate s = Edge.one("salted", good[i], 1);
            Edge.granted("salted " + good[i], s, s.lasts(), even[i]);
            SafeSenate t = Edge.one("salted", good[i] + 1, 1);
            t.day();
            Edge.granted("salted " + good[i] + " on day 1", t, t.lasts(), odd[i]);
        }
        Edge.days(z, 99);
        Edge.granted("from the last day on", z, z.lasts(), 99);
    }

    private static void asLongAsTheQuorumIsGood() {
        int[] lasts = {60, 5, 4, 4, 2, 1};
        for (int quorum = 1; quorum <= 6; quorum++) {
            SafeSenate x = Due.of("safe quorum " + quorum + " heat 1 thunder 0 salt 0" + Edge.hooks(0, 0, 0, 0, 0, 0)
                + Edge.seat(0, "fresh", 0, 4, 0) + Edge.seat(1, "fresh", 1, 60, 0) + Edge.seat(2, "fresh", 2, 1, 0)
                + Edge.seat(3, "fresh", 3, 4, 0) + Edge.seat(4, "fresh", 4, 5, 0) + Edge.seat(5, "fresh", 5, 2, 0));
            Edge.granted("quorum " + quorum, x, x.lasts(), lasts[quorum - 1]);
        }
    }

    private static void oneBehindTheOther() {
        SafeSenate x = Edge.one("fresh", 5, 1);
        for (int days = 5; days >= 0; days--) {
            Edge.granted("a day fewer each DAY", x, x.lasts(), days);
            x.day();
        }
    }
}
