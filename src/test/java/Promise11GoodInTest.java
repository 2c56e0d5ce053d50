/** Promise 11: goodIn. */
public final class Promise11GoodInTest {
    public static void main(String[] args) {
        noneSuch();
        numbers();
        inNoDays();
        noneBelowZero();
        inSixtyDays();
        eachKind();
        saltedFromOddDays();
        asHungAndSaltedNow();
        withoutThunder();
        Edge.asks("goodIn", x -> x.goodIn(0, 60));
        Due.end();
    }

    private static void noneSuch() {
        Edge.refused("behind the last", Edge::used, x -> x.goodIn(2, 0), 1);
        Edge.refused("1 ahead of 2", Edge::used, x -> x.goodIn(2, 61), 1);
        Edge.wild("senator", (x, wild) -> x.goodIn(wild, 0), 1);
    }

    private static void numbers() {
        Edge.refused("61", Edge::used, x -> x.goodIn(0, 61), 2);
        Edge.wild("in", (x, wild) -> x.goodIn(0, wild), 2);
    }

    private static void inNoDays() {
        SafeSenate x = Edge.one("fresh", 99, 9);
        Edge.granted("as NOW", x, x.goodIn(0, 0), 99);
        x.day();
        Edge.granted("as NOW, later", x, x.goodIn(0, 0), 90);
    }

    private static void noneBelowZero() {
        SafeSenate x = Edge.one("fresh", 10, 3);
        int[] left = {10, 7, 4, 1, 0, 0, 0};
        for (int n = 0; n < left.length; n++) {
            Edge.granted("in " + n, x, x.goodIn(0, n), left[n]);
        }
    }

    private static void inSixtyDays() {
        int[] good = {59, 60, 61, 99};
        int[] left = {0, 0, 1, 39};
        for (int i = 0; i < good.length; i++) {
            SafeSenate x = Edge.one("fresh", good[i], 1);
            Edge.granted("60 of " + good[i], x, x.goodIn(0, 60), left[i]);
        }
        SafeSenate x = Edge.one("fresh", 60, 1);
        Edge.granted("59 of 60", x, x.goodIn(0, 59), 1);
        SafeSenate late = Edge.one("cold", 7, 1);
        Edge.days(late, 99);
        Edge.granted("from the last day on", late, late.goodIn(0, 60), 7);
    }

    private static void eachKind() {
        Due.is("fresh", Edge.one("fresh", 99, 7).goodIn(0, 10), 29);
        Due.is("cold, half of 7 downwards", Edge.one("cold", 99, 7).goodIn(0, 10), 69);
        Due.is("cold, half of 1", Edge.one("cold", 1, 1).goodIn(0, 60), 1);
        SafeSenate x = Edge.one("salted", 5, 9);
        int[] left = {5, 4, 4, 3, 3, 2, 2, 1, 1, 0, 0};
        for (int n = 0; n < left.length; n++) {
            Due.is("salted in " + n, x.goodIn(0, n), left[n]);
        }
    }

    private static void saltedFromOddDays() {
        SafeSenate x = Edge.one("salted", 4, 9);
        x.day();
        int[] left = {3, 3, 2, 2, 1, 1, 0, 0};
        for (int n = 0; n < left.length; n++) {
            Due.is("from day 1 in " + n, x.goodIn(0, n), left[n]);
        }
    }

    private static void asHungAndSaltedNow() {
        SafeSenate x = Due.of(Edge.TWO);
        Due.is("p at a", x.goodIn(0, 2), 5);
        x.move(0, 2);
        Due.is("p at c", x.goodIn(0, 2), 7);
        x.salt(0);
        Due.is("p salted", x.goodIn(0, 2), 8);
    }

    private static void withoutThunder() {
        SafeSenate x = Due.of(Edge.TWO.replace("thunder 50", "thunder 100"));
        Due.is("no thunder in days to come", x.goodIn(0, 4), 1);
        x.day();
        Due.is("but in days that were", x.goodIn(0, 0), 4);
    }
}
