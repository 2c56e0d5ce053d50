/** Promise 17: hang. */
public final class Promise17HangTest {
    public static void main(String[] args) {
        numbers();
        nowAlready();
        theLastOfSixtyDays();
        noneAndAll();
        aHookOfHisOwn();
        theOnlyWay();
        whoIsOffStaysOff();
        saltedWhereverHeHangs();
        Edge.asks("hang", x -> x.hang(60));
        Due.end();
    }

    private static void numbers() {
        Edge.refused("61", Edge::used, x -> x.hang(61), 2);
        Edge.wild("hang", (x, wild) -> x.hang(wild), 2);
    }

    private static void nowAlready() {
        SafeSenate x = Due.of(Edge.FULL);
        Edge.granted("in 0 days", x, x.hang(0), 6);
    }

    private static void theLastOfSixtyDays() {
        int[] good = {60, 61};
        for (int i = 0; i < good.length; i++) {
            SafeSenate x = Edge.one("fresh", good[i], 1);
            Edge.granted("60 of " + good[i], x, x.hang(60), i);
        }
        SafeSenate x = Edge.one("fresh", 60, 1);
        Edge.granted("59 of 60", x, x.hang(59), 1);
    }

    private static void noneAndAll() {
        String six = "safe quorum 1 heat 9 thunder 0 salt 0" + Edge.hooks(9, 9, 9, 9, 9, 9);
        SafeSenate x = Due.of(six + Edge.seats("fresh", 5, 1, 0, 1, 2, 3, 4, 5));
        Edge.granted("all in 4 days", x, x.hang(4), 6);
        Edge.granted("nobody in 5", x, x.hang(5), 0);
    }

    /** Three hooks by which one lasts: not more than three do. */
    private static void aHookOfHisOwn() {
        SafeSenate x = Due.of("safe quorum 1 heat 9 thunder 0 salt 0" + Edge.hooks(0, 9, 0, 9, 0, 9)
            + Edge.seats("fresh", 9, 1, 0, 2, 4, 1, 3, 5));
        Edge.granted("three", x, x.hang(1), 3);
    }

    /** Each can last at one hook alone, by one way of all 720: the last. */
    private static void theOnlyWay() {
        SafeSenate x = Due.of("safe quorum 1 heat 6 thunder 0 salt 0" + Edge.hooks(0, 1, 2, 3, 4, 5)
            + Edge.seat(0, "fresh", 0, 2, 1) + Edge.seat(1, "fresh", 1, 3, 1) + Edge.seat(2, "fresh", 2, 4, 1)
            + Edge.seat(3, "fresh", 3, 5, 1) + Edge.seat(4, "fresh", 4, 6, 1) + Edge.seat(5, "fresh", 5, 7, 1));
        Edge.granted("all six", x, x.hang(1), 6);
        for (int s = 0; s < 6; s++) {
            Due.is("at his own, " + s, x.hangAt(s, 1), 5 - s);
        }
        Edge.granted("in two days", x, x.hang(2), 3);
    }

    private static void whoIsOffStaysOff() {
        SafeSenate x = Due.of("safe quorum 1 heat 9 thunder 0 salt 0" + Edge.hooks(0, 9, 9) + Edge.seat(0, "fresh", 0, 9, 1)
            + Edge.seat(1, "fresh", 1, 9, 1));
        Edge.granted("both", x, x.hang(8), 2);
        x.day();
        Edge.granted("one is OFF", x, x.hang(0), 1);
        Edge.granted("the other lasts", x, x.hang(7), 1);
        Edge.granted("and no longer", x, x.hang(8), 0);
    }

    private static void saltedWhereverHeHangs() {
        SafeSenate x = Edge.one("salted", 2, 9);
        Edge.granted("in 2", x, x.hang(2), 1);
        Edge.granted("in 3", x, x.hang(3), 0);
        x.day();
        Edge.granted("in 1 from day 1", x, x.hang(1), 1);
        Edge.granted("in 2 from day 1", x, x.hang(2), 0);
        SafeSenate y = Edge.one("fresh", 2, 9);
        Edge.granted("fresh", y, y.hang(1), 0);
        y.salt(0);
        Edge.granted("salted as NOW", y, y.hang(1), 1);
    }
}
