/** Promise 10: quorum. */
public final class Promise10QuorumTest {
    public static void main(String[] args) {
        asManyAsTheQuorum();
        shrinking();
        moreThanThereAre();
        Edge.asks("quorum", x -> x.quorum());
        Due.end();
    }

    private static SafeSenate six(int quorum) {
        return Due.of(Edge.FULL.replace("quorum 1", "quorum " + quorum));
    }

    private static void asManyAsTheQuorum() {
        for (int quorum = 1; quorum <= 6; quorum++) {
            SafeSenate x = six(quorum);
            Edge.granted("six, quorum " + quorum, x, x.quorum(), 1);
        }
    }

    private static void shrinking() {
        for (int quorum = 1; quorum <= 3; quorum++) {
            SafeSenate x = Due.of("safe quorum " + quorum + " heat 1 thunder 0 salt 0" + Edge.hooks(0, 0, 0)
                + Edge.seat(0, "fresh", 0, 1, 0) + Edge.seat(1, "fresh", 1, 2, 0) + Edge.seat(2, "fresh", 2, 3, 0));
            for (int good = 3; good >= 0; good--) {
                Edge.granted(good + " good, quorum " + quorum, x, x.quorum(), good >= quorum ? 1 : 0);
                x.day();
            }
        }
    }

    private static void moreThanThereAre() {
        SafeSenate x = Due.of("safe quorum 6 heat 1 thunder 0 salt 0" + Edge.hooks(0, 0, 0, 0, 0, 0)
            + Edge.seats("cold", 9, 9, 0, 1, 2, 3, 4));
        Edge.granted("five of six", x, x.quorum(), 0);
    }
}
