/** Promise 9: good. */
public final class Promise09GoodTest {
    public static void main(String[] args) {
        allOfThem();
        offWithNoDaysMore();
        nobody();
        Edge.asks("good", x -> x.good());
        Due.end();
    }

    private static void allOfThem() {
        SafeSenate x = Due.of(Edge.FULL);
        Edge.granted("six", x, x.good(), 63);
        SafeSenate y = Edge.one("fresh", 1, 1);
        Edge.granted("one", y, y.good(), 1);
    }

    private static void offWithNoDaysMore() {
        SafeSenate x = Due.of("safe quorum 1 heat 1 thunder 0 salt 0" + Edge.hooks(0, 0, 0, 0, 0, 0)
            + Edge.seat(0, "fresh", 0, 1, 0) + Edge.seat(1, "fresh", 1, 2, 0) + Edge.seat(2, "fresh", 2, 3, 0)
            + Edge.seat(3, "fresh", 3, 4, 0) + Edge.seat(4, "fresh", 4, 5, 0) + Edge.seat(5, "fresh", 5, 6, 0));
        int[] bits = {63, 62, 60, 56, 48, 32, 0};
        for (int day = 0; day < bits.length; day++) {
            Edge.granted("on day " + day, x, x.good(), bits[day]);
            x.day();
        }
    }

    private static void nobody() {
        SafeSenate x = Edge.one("fresh", 1, 1);
        x.day();
        Edge.granted("nobody is no refusal", x, x.good(), 0);
        x.undo();
        Edge.granted("GOOD again by undoing alone", x, x.good(), 1);
    }
}
